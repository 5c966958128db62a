/-! MODEL 4: putting -/
def dg_t (cp : Bool) : Nat := if cp then 65 else 97
/-- k digits of m, the highest first -/
def dg_s (b t : Nat) : Nat → Nat → List Nat
  | 0, _ => []
  | k + 1, m => nu_d t (m / b ^ k) :: dg_s b t k (m % b ^ k)
theorem dg_app {b t : Nat} (hb : 0 < b) : ∀ k m, m < b ^ (k + 1) → dg_s b t (k + 1) m = dg_s b t k (m / b) ++ [nu_d t (m % b)] := by
  intro k
  induction k with
  | zero => intro m h; rw [Nat.zero_add, Nat.pow_one] at h; rw [dg_s, dg_s, dg_s, Nat.pow_zero, Nat.div_one, Nat.mod_eq_of_lt h]; rfl
  | succ k ih =>
    intro m h
    have hp : 0 < b ^ (k + 1) := Nat.pow_pos hb
    rw [dg_s, ih (m % b ^ (k + 1)) (Nat.mod_lt _ hp), dg_s]
    rw [show m % b ^ (k + 1) / b = m / b % b ^ k by rw [Nat.pow_succ, Nat.mul_comm (b ^ k) b, Nat.mod_mul_right_div_self]]
    rw [show m % b ^ (k + 1) % b = m % b from Nat.mod_mod_of_dvd _ (Nat.dvd_of_mod_eq_zero (by rw [Nat.pow_succ, Nat.mul_mod_left]))]
    rw [show m / b ^ (k + 1) = m / b / b ^ k by rw [Nat.div_div_eq_div_mul, Nat.pow_succ, Nat.mul_comm]]
    rfl
theorem dg_nu {b t : Nat} (hb : 2 ≤ b) : ∀ e j n, (e = 0 ∨ b ^ e ≤ n) → n < b ^ (e + 1) → e < j → (nu_f b t j n).reverse = dg_s b t (e + 1) n := by
  intro e
  induction e with
  | zero =>
    intro j n _ h hj
    rw [Nat.zero_add, Nat.pow_one] at h
    rw [nu_fe hj (Nat.div_eq_of_lt h), Nat.mod_eq_of_lt h, dg_s, dg_s, Nat.pow_zero, Nat.div_one]; rfl
  | succ e ih =>
    intro j n h1 h2 hj
    have h3 : b ^ (e + 1) ≤ n := h1.elim (fun z => absurd z (by omega)) id
    have h4 : b ^ e ≤ n / b := (Nat.le_div_iff_mul_le (by omega)).mpr (by rw [← Nat.pow_succ]; exact h3)
    have hp : 0 < b ^ e := Nat.pow_pos (by omega)
    rw [nu_fs (by omega) (by omega), List.reverse_cons, ih (j - 1) (n / b) (Or.inr h4) ((Nat.div_lt_iff_lt_mul (by omega)).mpr (by rw [← Nat.pow_succ]; exact h2)) (by omega), dg_app (by omega) (e + 1) n h2]
def dg_p (b k : Nat) : Nat := if k = 0 then 0 else b ^ (k - 1)
theorem lN_e {m j : Nat} (h : m < 2 ^ 64) (hj : j < 2 ^ 64) : lN m = lN j ↔ m = j := ⟨fun z => by rw [← wb_tn h, ← wb_tn hj, z], fun z => by rw [z]⟩
theorem dg_c0 {m : Nat} (h : m < 2 ^ 64) : lg_cmp (lN m) 0 = 0 ↔ m = 0 := (lg_cmp_eq _ _).trans (lN_e (j := 0) h (by decide))
theorem dg_c1 {m : Nat} (h : m < 2 ^ 64) : lg_cmp (lN m) 1 = 0 ↔ m = 1 := (lg_cmp_eq _ _).trans (lN_e (j := 1) h (by decide))
/-- the greatest power -/
theorem dg_l1 {b n e : Nat} (hb : 2 ≤ b) (hn : n < 2 ^ 64) (h : b ^ e ≤ n / b) : b ^ (e + 1) ≤ n ∧ b ^ (e + 1) < 2 ^ 64 ∧ e + 1 < 64 := by
  have h1 : b ^ (e + 1) ≤ n := by rw [Nat.pow_succ]; exact (Nat.le_div_iff_mul_le (by omega)).mp h
  have h2 : 2 ^ (e + 1) ≤ b ^ (e + 1) := Nat.pow_le_pow_left hb _
  refine ⟨h1, by omega, ?_⟩
  by_cases z : e + 1 < 64
  · exact z
  · have := Nat.pow_le_pow_right (n := 2) (by decide) (show 64 ≤ e + 1 by omega)
    omega
theorem dg_p1 {b e : Nat} : dg_p b (e + 1) = b ^ e := by unfold dg_p; rw [if_neg (by omega)]; rfl
theorem dg_i {b t n e : Nat} (hb : 2 ≤ b) (h1 : e = 0 ∨ b ^ e ≤ n) (h2 : n / b < b ^ e) (he : e < 64) : (nu_f b t 64 n).reverse = [] ++ dg_s b t (e + 1) n ∧ n < b ^ (e + 1) := by
  have h3 : n < b ^ (e + 1) := by rw [Nat.pow_succ]; exact (Nat.div_lt_iff_lt_mul (by omega)).mp h2
  exact ⟨dg_nu hb e 64 n h1 h3 he, h3⟩
theorem dg_k0 {b k : Nat} (hb : 2 ≤ b) (h : dg_p b k = 0) : k = 0 := by
  by_cases z : k = 0
  · exact z
  · unfold dg_p at h; rw [if_neg z] at h; have := Nat.pow_pos (n := k - 1) (show 0 < b by omega); omega
theorem dg_kn {b k : Nat} (hb : 2 ≤ b) (h : dg_p b k ≠ 0) : 0 < k ∧ 0 < dg_p b k ∧ b ^ k = dg_p b k * b := by
  have z : k ≠ 0 := fun z => h (by unfold dg_p; rw [if_pos z])
  refine ⟨by omega, by omega, ?_⟩
  unfold dg_p; rw [if_neg z, ← Nat.pow_succ, Nat.succ_eq_add_one, show k - 1 + 1 = k by omega]
theorem dg_dv {x y d p : Nat} (hp : 0 < p) (hy : y + d * p = x) (h : y < p) : x / p = d ∧ x % p = y := by
  rw [← hy, Nat.add_mul_div_right _ _ hp, Nat.add_mul_mod_self_right, Nat.div_eq_of_lt h, Nat.mod_eq_of_lt h]; omega
theorem dg_st {b t k x y d : Nat} {N W : List Nat} (hb : 2 ≤ b) (h0 : dg_p b k ≠ 0) (hE : N = W ++ dg_s b t k x) (hx : x < b ^ k) (hy : y + d * dg_p b k = x) (h : y < dg_p b k) :
    N = (W ++ [nu_d t d]) ++ dg_s b t (k - 1) y ∧ y < b ^ (k - 1) ∧ d < b := by
  obtain ⟨h1, h2, h3⟩ := dg_kn hb h0
  obtain ⟨h4, h5⟩ := dg_dv h2 hy h
  have h6 : dg_p b k = b ^ (k - 1) := by unfold dg_p; rw [if_neg (by omega)]
  refine ⟨?_, by omega, ?_⟩
  · obtain ⟨j, rfl⟩ : ∃ j, k = j + 1 := ⟨k - 1, by omega⟩
    rw [hE, dg_s, ← show dg_p b (j + 1) = b ^ j from dg_p1, h4, h5, List.append_assoc]; rfl
  · rw [← h4]; exact Nat.div_lt_of_lt_mul (by rw [← h3]; exact hx)
theorem dg_q1 {b k : Nat} (hb : 2 ≤ b) (h0 : dg_p b k ≠ 0) (h : dg_p b k = 1) : (0 : Int64) = lN (dg_p b (k - 1)) := by
  have h1 := (dg_kn hb h0).1
  have h6 : dg_p b k = b ^ (k - 1) := by unfold dg_p; rw [if_neg (by omega)]
  have : k - 1 = 0 := by
    by_cases z : k - 1 = 0
    · exact z
    · have := Nat.pow_lt_pow_right (a := b) (by omega) (show 0 < k - 1 by omega)
      rw [Nat.pow_zero] at this; omega
  rw [this]; rfl
theorem dg_q2 {b k : Nat} (hb : 2 ≤ b) (h0 : dg_p b k ≠ 0) (h : dg_p b k ≠ 1) : lN (dg_p b k / b) = lN (dg_p b (k - 1)) := by
  have h1 := (dg_kn hb h0).1
  have h6 : dg_p b k = b ^ (k - 1) := by unfold dg_p; rw [if_neg (by omega)]
  have hk : k - 1 ≠ 0 := fun z => h (by rw [h6, z]; rfl)
  rw [h6]; unfold dg_p; rw [if_neg hk]
  obtain ⟨j, hj⟩ : ∃ j, k - 1 = j + 1 := ⟨k - 2, by omega⟩
  rw [hj, Nat.pow_succ, Nat.mul_div_cancel _ (by omega)]; rfl
theorem dg_le {b k : Nat} (h : dg_p b k < 2 ^ 64) (hb : 2 ≤ b) : dg_p b (k - 1) < 2 ^ 64 := by
  unfold dg_p at *
  by_cases z : k - 1 = 0
  · rw [if_pos z]; decide
  · rw [if_neg z]; rw [if_neg (by omega)] at h
    have := Nat.pow_le_pow_right (n := b) (by omega) (show k - 1 - 1 ≤ k - 1 by omega)
    omega
theorem dg_lt {d : Nat} {cp : Bool} (h : d < 36) : nu_d (dg_t cp) d < 256 := by unfold nu_d dg_t; split <;> (try split) <;> omega
theorem dg_v1 {d : Nat} {cp : Bool} (h : d < 10) : 48 + nI d = nI (nu_d (dg_t cp) d) := nu_dl h
theorem dg_v2 {d : Nat} {cp : Bool} (h : 10 ≤ d) (hc : cp = true) : 65 + nI d - 10 = nI (nu_d (dg_t cp) d) := by rw [hc]; exact nu_dg h (by decide)
theorem dg_v3 {d : Nat} {cp : Bool} (h : 10 ≤ d) (hc : cp = false) : 97 + nI d - 10 = nI (nu_d (dg_t cp) d) := by rw [hc]; exact nu_dg h (by decide)
theorem hx_v1 {d : Nat} (h : d < 10) : 48 + nI d = nI (nu_d 97 d) := nu_dl h
theorem hx_v2 {d : Nat} (h : 10 ≤ d) : 97 + nI d - 10 = nI (nu_d 97 d) := nu_dg h (by decide)
theorem hx_e {P : List Nat} {b : Nat} (h : b < 256) : (P ++ [by_b (nI (nu_d 97 (b / 16)))]) ++ [by_b (nI (nu_d 97 (b % 16)))] = P ++ [nu_d 97 (b / 16), nu_d 97 (b % 16)] := by
  rw [by_b_n (nu_d_lt (by omega) (by decide)), by_b_n (nu_d_lt (by omega) (by decide)), List.append_assoc]; rfl
theorem mu_1 {P : List Nat} {c : Nat} (h : c < 128) : P ++ [by_b (nI c)] = P ++ ut_8 c := by unfold ut_8; rw [if_pos h, by_b_n (by omega)]
theorem mu_2 {P : List Nat} {c : Nat} (h1 : 128 ≤ c) (h : c < 2048) : (P ++ [by_b (192 ||| (nI c >>> ((6 : Int32) &&& 31)))]) ++ [by_b (128 ||| (nI c &&& 63))] = P ++ ut_8 c := by
  unfold ut_8
  rw [if_neg (by omega), if_pos h, ut_ld (x := 192) (c := c) (a := 3) (i := 6) (k := 6) rfl (by decide) (by omega) (by omega) (by omega), ut_c0 (by omega), show (3 * 2 ^ 6 + c / 2 ^ 6) % 256 = 192 + c / 64 by omega, List.append_assoc]; rfl
theorem mu_3 {P : List Nat} {c : Nat} (h1 : 2048 ≤ c) (h : c < 65536) : ((P ++ [by_b (224 ||| (nI c >>> ((12 : Int32) &&& 31)))]) ++ [by_b (128 ||| ((nI c >>> ((6 : Int32) &&& 31)) &&& 63))]) ++ [by_b (128 ||| (nI c &&& 63))] = P ++ ut_8 c := by
  unfold ut_8
  rw [if_neg (by omega), if_neg (by omega), if_pos h, ut_ld (x := 224) (c := c) (a := 14) (i := 4) (k := 12) rfl (by decide) (by omega) (by omega) (by omega), ut_c0 (by omega), ut_cs (c := c) (k := 6) (by decide) (by omega), show (14 * 2 ^ 4 + c / 2 ^ 12) % 256 = 224 + c / 4096 by omega, List.append_assoc, List.append_assoc]; rfl
theorem mu_4 {P : List Nat} {c : Nat} (h1 : 65536 ≤ c) (h : c ≤ 1114111) : (((P ++ [by_b (240 ||| (nI c >>> ((18 : Int32) &&& 31)))]) ++ [by_b (128 ||| ((nI c >>> ((12 : Int32) &&& 31)) &&& 63))]) ++ [by_b (128 ||| ((nI c >>> ((6 : Int32) &&& 31)) &&& 63))]) ++ [by_b (128 ||| (nI c &&& 63))] = P ++ ut_8 c := by
  unfold ut_8
  rw [if_neg (by omega), if_neg (by omega), if_neg (by omega), ut_ld (x := 240) (c := c) (a := 30) (i := 3) (k := 18) rfl (by decide) (by omega) (by omega) (by omega), ut_c0 (by omega), ut_cs (s := (6 : Int32) &&& 31) (c := c) (k := 6) (by decide) (by omega), ut_cs (s := (12 : Int32) &&& 31) (c := c) (k := 12) (by decide) (by omega), show (30 * 2 ^ 3 + c / 2 ^ 18) % 256 = 240 + c / 262144 by omega, List.append_assoc, List.append_assoc, List.append_assoc]; rfl
def mq (sg c : Nat) : List Nat := if c < 128 then qu_b sg c else ut_8 c
theorem mq_1 {P : List Nat} {sg c : Nat} (hs : sg < 128) (h : c = sg ∨ c = 92) : (P ++ [by_b 92]) ++ [by_b (nI c)] = P ++ mq sg c := by
  unfold mq qu_b; rw [if_pos (by omega), if_pos (by omega), by_b_n (by omega), List.append_assoc]; rfl
theorem mq_2 {P : List Nat} {sg c : Nat} (h : c ≠ sg) (h2 : c ≠ 92) (h3 : 7 ≤ c) (h4 : c ≤ 13) : (P ++ [by_b 92]) ++ [by_b (nI ((kxB 20).getD (c - 7) 0))] = P ++ mq sg c := by
  unfold mq qu_b; rw [if_pos (by omega), if_neg (by omega), if_neg (by omega), if_pos ⟨h3, h4⟩, List.append_assoc]
  rcases (show c = 7 ∨ c = 8 ∨ c = 9 ∨ c = 10 ∨ c = 11 ∨ c = 12 ∨ c = 13 by omega) with rfl | rfl | rfl | rfl | rfl | rfl | rfl <;> rfl
theorem mq_3 {P : List Nat} {sg c : Nat} (h : c ≠ sg) (h2 : c ≠ 92) (h3 : ¬ (7 ≤ c ∧ c ≤ 13)) (h4 : c < 32 ∨ c = 127) : ((P ++ [by_b 92]) ++ [by_b 120]) ++ [nu_d 97 (c / 16), nu_d 97 (c % 16)] = P ++ mq sg c := by
  unfold mq qu_b; rw [if_pos (by omega), if_neg (by omega), if_neg (by omega), if_neg h3, List.append_assoc, List.append_assoc]; rfl
theorem mq_4 {P : List Nat} {sg c : Nat} (h : c ≠ sg) (h2 : c ≠ 92) (h4 : ¬ c < 32) (h5 : c ≠ 127) : P ++ ut_8 c = P ++ mq sg c := by
  unfold mq
  by_cases z : c < 128
  · unfold ut_8 qu_b; rw [if_pos z, if_pos z, if_neg (by omega), if_pos (by omega)]
  · rw [if_neg z]
theorem mq_len (sg c : Nat) : (mq sg c).length ≤ 4 := by
  unfold mq qu_b ut_8
  split
  · split
    · exact Nat.le_of_ble_eq_true rfl
    · split
      · exact Nat.le_of_ble_eq_true rfl
      · split <;> exact Nat.le_of_ble_eq_true rfl
  · split
    · exact Nat.le_of_ble_eq_true rfl
    · split <;> exact Nat.le_of_ble_eq_true rfl
theorem mw_s {P : List Nat} {B : List Nat} {i : Nat} (h : i < B.length) (h2 : B.getD i 0 < 256) : (P ++ B.take i) ++ [by_b (sb_b (B.getD i 0))] = P ++ B.take (i + 1) := by
  rw [by_b_sb h2, List.append_assoc, List.take_add_one, List.getD_eq_getElem?_getD, List.getElem?_eq_getElem h]; rfl
theorem mw_e {P B : List Nat} {i : Nat} (h : i = B.length) : P ++ B.take i = P ++ B := by rw [h, List.take_length]
/-- the kind of an argument with the reference -/
def mo_k (k : Nat) (x : Int64) : Int32 := if k = 4 then (if x < 0 then 4 else 5) else nI k
/-- what the reference holds of an argument -/
def mo_h (k : Nat) (x : Int64) (B : List Nat) (j : Nat) (fk : Nat → Int32) (fv : Nat → Int64) (fw fo : Nat → Int32) : Prop :=
  fk j = mo_k k x ∧ fv j = x ∧ (k = 3 → fw j = nI B.length ∧ B.length ≤ 4096 ∧ ∀ t, t < B.length → B.getD t 0 < 256 ∧ fo (4096 * j + t) = sb_b (B.getD t 0))
def mo_o (k : Nat) (x : Int64) : Prop := (k = 0 ∨ k = 1) ∨ k = 3 ∨ ((k = 2 ∧ (x = 0 ∨ x = 1)) ∨ (k = 4 ∧ ∃ j, j < 10 ∧ x = (nI j - 1).toInt64))
def mo_p (k : Nat) (x : Int64) (B : List Nat) : List Nat := if k = 3 then B else if k = 0 ∨ k = 1 then pp_n k x else kxB (ar_w k x)
theorem mo_kn {k : Nat} {x : Int64} (h : k = 0 ∨ k = 1) : mo_k k x = nI k := if_neg (by omega)
theorem pn_0 (b q : Bool) (D : List Nat) : pn_l b q 0 D = (if b then [45] else if q then [43] else []) ++ D.reverse := by unfold pn_l; rw [Nat.zero_sub, Nat.zero_sub]; rfl
theorem mo_pn {k : Nat} {x : Int64} {B : List Nat} (h : k = 0 ∨ k = 1) : mo_p k x B = (if ar_b (nI k) x then [45] else []) ++ (nu_f 10 97 64 (ar_m (nI k) x)).reverse := by
  unfold mo_p; rw [if_neg (by omega), if_pos h]; unfold pp_n; rw [pn_0]; rfl
theorem mo_pn1 {P : List Nat} {k : Nat} {x : Int64} {B : List Nat} (h : k = 0 ∨ k = 1) (hb : ar_b (nI k) x = true) : (P ++ [by_b 45]) ++ (nu_f 10 (dg_t false) 64 (ar_m (nI k) x)).reverse = P ++ mo_p k x B := by
  rw [mo_pn h, hb, List.append_assoc]; rfl
theorem mo_pn0 {P : List Nat} {k : Nat} {x : Int64} {B : List Nat} (h : k = 0 ∨ k = 1) (hb : ar_b (nI k) x = false) : P ++ (nu_f 10 (dg_t false) 64 (ar_m (nI k) x)).reverse = P ++ mo_p k x B := by
  rw [mo_pn h, hb]; rfl
theorem mo_si {i : Nat} (h : i ≤ 8) : i = 0 ∨ i = 1 ∨ i = 2 ∨ i = 3 ∨ i = 4 ∨ i = 5 ∨ i = 6 ∨ i = 7 ∨ i = 8 := by omega
def mb_v (v : Nat) : Nat := if v = 100 then 10 else if v = 120 ∨ v = 88 then 16 else if v = 98 then 2 else if v = 111 then 8 else 0
theorem mo_th {i : Nat} (h : i ≤ 8) : kxB (24 + i) = kxB (ar_w 4 (nI (i + 1) - 1).toInt64) := by
  rcases mo_si h with rfl | rfl | rfl | rfl | rfl | rfl | rfl | rfl | rfl <;> decide +kernel
theorem mo_ti {i : Nat} (h : i ≤ 8) : (nI (i + 1) - 1).toInt64.toInt32 = nI i := by
  rcases mo_si h with rfl | rfl | rfl | rfl | rfl | rfl | rfl | rfl | rfl <;> decide +kernel
theorem mo_tk {i : Nat} (h : i ≤ 8) : mo_k 4 (nI (i + 1) - 1).toInt64 = 5 := by
  rcases mo_si h with rfl | rfl | rfl | rfl | rfl | rfl | rfl | rfl | rfl <;> decide +kernel
theorem mo_t0 : mo_k 4 (nI 0 - 1).toInt64 = 4 := by decide +kernel
theorem mo_tn : kxB 23 = kxB (ar_w 4 (nI 0 - 1).toInt64) := by decide +kernel
theorem mo_pw {P B : List Nat} {k i : Nat} {x : Int64} (h3 : k ≠ 3) (h : ¬ (k = 0 ∨ k = 1)) (hx : kxB i = kxB (ar_w k x)) : P ++ kxB i = P ++ mo_p k x B := by unfold mo_p; rw [if_neg h3, if_neg h, hx]
theorem mo_pt {P B : List Nat} {k : Nat} {x : Int64} (h3 : k = 3) : P ++ B = P ++ mo_p k x B := by unfold mo_p; rw [if_pos h3]
theorem mb_0 {v : Nat} (h1 : v ≠ 100) (h2 : v ≠ 120) (h3 : v ≠ 88) (h4 : v ≠ 98) (h5 : v ≠ 111) : mb_v v = 0 := by
  unfold mb_v; rw [if_neg h1, if_neg (fun z => z.elim h2 h3), if_neg h4, if_neg h5]
theorem sb_e1 {v k : Nat} (hv : v < 256) (hk : k < 128) (h : sb_b v = nI k) : v = k := (sb_e hv hk).mp h
theorem sb_e2 {v k : Nat} (hv : v < 256) (hk : k < 128) (h : ¬ sb_b v = nI k) : v ≠ k := fun z => h ((sb_e hv hk).mpr z)
theorem sb_e3 {v k : Nat} (hv : v < 256) (hk : k < 128) (h : v = k) : sb_b v = nI k := (sb_e hv hk).mpr h
theorem sb_e4 {v k : Nat} (hv : v < 256) (hk : k < 128) (h : v ≠ k) : ¬ sb_b v = nI k := fun z => h ((sb_e hv hk).mp z)
abbrev y_Mo_utf : MethodName := ⟨"TextForgeModel", "utf", "(I)V"⟩
abbrev w_Mo_utf : List Cond := Cond.code y_Mo_utf prog_12_method_19_code 2 none :: gw
theorem d_Mo_utf_0 : decode prog_12_method_19_code 0 = .ok (.iload_n 1, 1) := by decide +kernel
theorem d_Mo_utf_1 : decode prog_12_method_19_code 1 = .ok (.sipush 128, 3) := by decide +kernel
theorem d_Mo_utf_4 : decode prog_12_method_19_code 4 = .ok (.if_icmp .ge 11, 3) := by decide +kernel
theorem d_Mo_utf_7 : decode prog_12_method_19_code 7 = .ok (.aload_n 0, 1) := by decide +kernel
theorem d_Mo_utf_8 : decode prog_12_method_19_code 8 = .ok (.iload_n 1, 1) := by decide +kernel
theorem d_Mo_utf_9 : decode prog_12_method_19_code 9 = .ok (.invokevirtual 74, 3) := by decide +kernel
theorem d_Mo_utf_12 : decode prog_12_method_19_code 12 = .ok (.goto 139, 3) := by decide +kernel
theorem d_Mo_utf_15 : decode prog_12_method_19_code 15 = .ok (.iload_n 1, 1) := by decide +kernel
theorem d_Mo_utf_16 : decode prog_12_method_19_code 16 = .ok (.sipush 2048, 3) := by decide +kernel
theorem d_Mo_utf_19 : decode prog_12_method_19_code 19 = .ok (.if_icmp .ge 30, 3) := by decide +kernel
theorem d_Mo_utf_22 : decode prog_12_method_19_code 22 = .ok (.aload_n 0, 1) := by decide +kernel
theorem d_Mo_utf_23 : decode prog_12_method_19_code 23 = .ok (.sipush 192, 3) := by decide +kernel
theorem d_Mo_utf_26 : decode prog_12_method_19_code 26 = .ok (.iload_n 1, 1) := by decide +kernel
theorem d_Mo_utf_27 : decode prog_12_method_19_code 27 = .ok (.bipush 6, 2) := by decide +kernel
theorem d_Mo_utf_29 : decode prog_12_method_19_code 29 = .ok (.ishr, 1) := by decide +kernel
theorem d_Mo_utf_30 : decode prog_12_method_19_code 30 = .ok (.ior, 1) := by decide +kernel
theorem d_Mo_utf_31 : decode prog_12_method_19_code 31 = .ok (.invokevirtual 74, 3) := by decide +kernel
theorem d_Mo_utf_34 : decode prog_12_method_19_code 34 = .ok (.aload_n 0, 1) := by decide +kernel
theorem d_Mo_utf_35 : decode prog_12_method_19_code 35 = .ok (.sipush 128, 3) := by decide +kernel
theorem d_Mo_utf_38 : decode prog_12_method_19_code 38 = .ok (.iload_n 1, 1) := by decide +kernel
theorem d_Mo_utf_39 : decode prog_12_method_19_code 39 = .ok (.bipush 63, 2) := by decide +kernel
theorem d_Mo_utf_41 : decode prog_12_method_19_code 41 = .ok (.iand, 1) := by decide +kernel
theorem d_Mo_utf_42 : decode prog_12_method_19_code 42 = .ok (.ior, 1) := by decide +kernel
theorem d_Mo_utf_43 : decode prog_12_method_19_code 43 = .ok (.invokevirtual 74, 3) := by decide +kernel
theorem d_Mo_utf_46 : decode prog_12_method_19_code 46 = .ok (.goto 105, 3) := by decide +kernel
theorem d_Mo_utf_49 : decode prog_12_method_19_code 49 = .ok (.iload_n 1, 1) := by decide +kernel
theorem d_Mo_utf_50 : decode prog_12_method_19_code 50 = .ok (.ldc 24, 2) := by decide +kernel
theorem d_Mo_utf_52 : decode prog_12_method_19_code 52 = .ok (.if_icmp .ge 45, 3) := by decide +kernel
theorem d_Mo_utf_55 : decode prog_12_method_19_code 55 = .ok (.aload_n 0, 1) := by decide +kernel
theorem d_Mo_utf_56 : decode prog_12_method_19_code 56 = .ok (.sipush 224, 3) := by decide +kernel
theorem d_Mo_utf_59 : decode prog_12_method_19_code 59 = .ok (.iload_n 1, 1) := by decide +kernel
theorem d_Mo_utf_60 : decode prog_12_method_19_code 60 = .ok (.bipush 12, 2) := by decide +kernel
theorem d_Mo_utf_62 : decode prog_12_method_19_code 62 = .ok (.ishr, 1) := by decide +kernel
theorem d_Mo_utf_63 : decode prog_12_method_19_code 63 = .ok (.ior, 1) := by decide +kernel
theorem d_Mo_utf_64 : decode prog_12_method_19_code 64 = .ok (.invokevirtual 74, 3) := by decide +kernel
theorem d_Mo_utf_67 : decode prog_12_method_19_code 67 = .ok (.aload_n 0, 1) := by decide +kernel
theorem d_Mo_utf_68 : decode prog_12_method_19_code 68 = .ok (.sipush 128, 3) := by decide +kernel
theorem d_Mo_utf_71 : decode prog_12_method_19_code 71 = .ok (.iload_n 1, 1) := by decide +kernel
theorem d_Mo_utf_72 : decode prog_12_method_19_code 72 = .ok (.bipush 6, 2) := by decide +kernel
theorem d_Mo_utf_74 : decode prog_12_method_19_code 74 = .ok (.ishr, 1) := by decide +kernel
theorem d_Mo_utf_75 : decode prog_12_method_19_code 75 = .ok (.bipush 63, 2) := by decide +kernel
theorem d_Mo_utf_77 : decode prog_12_method_19_code 77 = .ok (.iand, 1) := by decide +kernel
theorem d_Mo_utf_78 : decode prog_12_method_19_code 78 = .ok (.ior, 1) := by decide +kernel
theorem d_Mo_utf_79 : decode prog_12_method_19_code 79 = .ok (.invokevirtual 74, 3) := by decide +kernel
theorem d_Mo_utf_82 : decode prog_12_method_19_code 82 = .ok (.aload_n 0, 1) := by decide +kernel
theorem d_Mo_utf_83 : decode prog_12_method_19_code 83 = .ok (.sipush 128, 3) := by decide +kernel
theorem d_Mo_utf_86 : decode prog_12_method_19_code 86 = .ok (.iload_n 1, 1) := by decide +kernel
theorem d_Mo_utf_87 : decode prog_12_method_19_code 87 = .ok (.bipush 63, 2) := by decide +kernel
theorem d_Mo_utf_89 : decode prog_12_method_19_code 89 = .ok (.iand, 1) := by decide +kernel
theorem d_Mo_utf_90 : decode prog_12_method_19_code 90 = .ok (.ior, 1) := by decide +kernel
theorem d_Mo_utf_91 : decode prog_12_method_19_code 91 = .ok (.invokevirtual 74, 3) := by decide +kernel
theorem d_Mo_utf_94 : decode prog_12_method_19_code 94 = .ok (.goto 57, 3) := by decide +kernel
theorem d_Mo_utf_97 : decode prog_12_method_19_code 97 = .ok (.aload_n 0, 1) := by decide +kernel
theorem d_Mo_utf_98 : decode prog_12_method_19_code 98 = .ok (.sipush 240, 3) := by decide +kernel
theorem d_Mo_utf_101 : decode prog_12_method_19_code 101 = .ok (.iload_n 1, 1) := by decide +kernel
theorem d_Mo_utf_102 : decode prog_12_method_19_code 102 = .ok (.bipush 18, 2) := by decide +kernel
theorem d_Mo_utf_104 : decode prog_12_method_19_code 104 = .ok (.ishr, 1) := by decide +kernel
theorem d_Mo_utf_105 : decode prog_12_method_19_code 105 = .ok (.ior, 1) := by decide +kernel
theorem d_Mo_utf_106 : decode prog_12_method_19_code 106 = .ok (.invokevirtual 74, 3) := by decide +kernel
theorem d_Mo_utf_109 : decode prog_12_method_19_code 109 = .ok (.aload_n 0, 1) := by decide +kernel
theorem d_Mo_utf_110 : decode prog_12_method_19_code 110 = .ok (.sipush 128, 3) := by decide +kernel
theorem d_Mo_utf_113 : decode prog_12_method_19_code 113 = .ok (.iload_n 1, 1) := by decide +kernel
theorem d_Mo_utf_114 : decode prog_12_method_19_code 114 = .ok (.bipush 12, 2) := by decide +kernel
theorem d_Mo_utf_116 : decode prog_12_method_19_code 116 = .ok (.ishr, 1) := by decide +kernel
theorem d_Mo_utf_117 : decode prog_12_method_19_code 117 = .ok (.bipush 63, 2) := by decide +kernel
theorem d_Mo_utf_119 : decode prog_12_method_19_code 119 = .ok (.iand, 1) := by decide +kernel
theorem d_Mo_utf_120 : decode prog_12_method_19_code 120 = .ok (.ior, 1) := by decide +kernel
theorem d_Mo_utf_121 : decode prog_12_method_19_code 121 = .ok (.invokevirtual 74, 3) := by decide +kernel
theorem d_Mo_utf_124 : decode prog_12_method_19_code 124 = .ok (.aload_n 0, 1) := by decide +kernel
theorem d_Mo_utf_125 : decode prog_12_method_19_code 125 = .ok (.sipush 128, 3) := by decide +kernel
theorem d_Mo_utf_128 : decode prog_12_method_19_code 128 = .ok (.iload_n 1, 1) := by decide +kernel
theorem d_Mo_utf_129 : decode prog_12_method_19_code 129 = .ok (.bipush 6, 2) := by decide +kernel
theorem d_Mo_utf_131 : decode prog_12_method_19_code 131 = .ok (.ishr, 1) := by decide +kernel
theorem d_Mo_utf_132 : decode prog_12_method_19_code 132 = .ok (.bipush 63, 2) := by decide +kernel
theorem d_Mo_utf_134 : decode prog_12_method_19_code 134 = .ok (.iand, 1) := by decide +kernel
theorem d_Mo_utf_135 : decode prog_12_method_19_code 135 = .ok (.ior, 1) := by decide +kernel
theorem d_Mo_utf_136 : decode prog_12_method_19_code 136 = .ok (.invokevirtual 74, 3) := by decide +kernel
theorem d_Mo_utf_139 : decode prog_12_method_19_code 139 = .ok (.aload_n 0, 1) := by decide +kernel
theorem d_Mo_utf_140 : decode prog_12_method_19_code 140 = .ok (.sipush 128, 3) := by decide +kernel
theorem d_Mo_utf_143 : decode prog_12_method_19_code 143 = .ok (.iload_n 1, 1) := by decide +kernel
theorem d_Mo_utf_144 : decode prog_12_method_19_code 144 = .ok (.bipush 63, 2) := by decide +kernel
theorem d_Mo_utf_146 : decode prog_12_method_19_code 146 = .ok (.iand, 1) := by decide +kernel
theorem d_Mo_utf_147 : decode prog_12_method_19_code 147 = .ok (.ior, 1) := by decide +kernel
theorem d_Mo_utf_148 : decode prog_12_method_19_code 148 = .ok (.invokevirtual 74, 3) := by decide +kernel
theorem d_Mo_utf_151 : decode prog_12_method_19_code 151 = .ok (.return_, 1) := by decide +kernel
set_option maxHeartbeats 4000000 in
set_option maxRecDepth 100000 in
theorem c_Mo_utf (l : Launch) (dC : Nat → ClassId) (dI : Nat → Nat → Nat) (mo rt rk rv rw ro rr ra rc rl rb : Nat) (th fd mn md pt : Int32) (pz : Int64) (kc la ca : Int32) (cB : ClassId) (fa : Nat → Int32) (P : List Nat) (c0 : Nat) (hLa : by_L P fa) (hpa : P.length + 4 ≤ 16400) (hc0 : c0 ≤ 1114111) : zM_v (S := Nat → Int32) l y_Mo_utf w_Mo_utf { frames := 1, cells := 0, slots := 0, locals := 21 } (dC, dI) vwCl [.ref mo, .int (nI c0)] [(mo, .inr (8, [.int th, .int fd, .ref rt, .int mn, .ref rk, .ref rv, .ref rw, .ref ro, .int md, .ref rr, .int (nI P.length), .ref ra, .long pz, .int kc, .ref rc, .ref rl, .ref rb, .int la, .int ca])), (ra, .inl (cB, 16400, .inl fa))] [(cB, .byte)] (fun (u : Nat → Int32) => by_L (P ++ (ut_8 c0)) u) (fun u => [(mo, .inr (8, [.int th, .int fd, .ref rt, .int mn, .ref rk, .ref rv, .ref rw, .ref ro, .int md, .ref rr, .int (nI (P ++ (ut_8 c0)).length), .ref ra, .long pz, .int kc, .ref rc, .ref rl, .ref rb, .int la, .int ca])), (ra, .inl (cB, 16400, .inl u))]) (fun u => [(cB, .byte)]) 0 0 := by
  refine zz_enterv (cc := prog_12_method_19_code) (nL := 2) (ret := none) (by decide) rfl (Nat.le_of_ble_eq_true rfl) ?_
  intro p e s m below meth c A ls C0 hA hS hP hK hD hl
  obtain ⟨hx, hb, hml, hown, hg, hr, hlocks, hin⟩ := C0
  have hown : s.vm.findClass "TextForgeModel" = some m.cls := hown
  have hP : va_P (dC, dI) vwCl [(mo, .inr (8, [.int th, .int fd, .ref rt, .int mn, .ref rk, .ref rv, .ref rw, .ref ro, .int md, .ref rr, .int (nI P.length), .ref ra, .long pz, .int kc, .ref rc, .ref rl, .ref rb, .int la, .int ca])), (ra, .inl (cB, 16400, .inl fa))] s.heap := hP
  have hK : va_K (dC, dI) vwCl [(cB, .byte)] s := hK
  have hD : va_D A [(mo, .inr (8, [.int th, .int fd, .ref rt, .int mn, .ref rk, .ref rv, .ref rw, .ref ro, .int md, .ref rr, .int (nI P.length), .ref ra, .long pz, .int kc, .ref rc, .ref rl, .ref rb, .int la, .int ca])), (ra, .inl (cB, 16400, .inl fa))] := hD
  have hl : lv_has ls 2 [(0, .ref mo), (1, .int (nI c0))] := hl
  refine lv_iload_n hx hb d_Mo_utf_0 rfl (lv_at hl 1 rfl) ?_
  refine lv_sipush (v := 128) hx hb d_Mo_utf_1 (by decide) ?_
  refine lv_icmp_ge (tgt := 15) hx hb d_Mo_utf_4 (by decide) (fun c_4 => ?_) (fun c_4 => ?_)
  · skip
    have f_4 : 128 ≤ c0 := Nat.le_of_not_lt (fun z => nI_ge (b := 128) z (by omega) c_4)
    refine lv_iload_n hx hb d_Mo_utf_15 rfl (lv_at hl 1 rfl) ?_
    refine lv_sipush (v := 2048) hx hb d_Mo_utf_16 (by decide) ?_
    refine lv_icmp_ge (tgt := 49) hx hb d_Mo_utf_19 (by decide) (fun c_19 => ?_) (fun c_19 => ?_)
    · skip
      have f_19 : 2048 ≤ c0 := Nat.le_of_not_lt (fun z => nI_ge (b := 2048) z (by omega) c_19)
      refine lv_iload_n hx hb d_Mo_utf_49 rfl (lv_at hl 1 rfl) ?_
      refine W.ldc (v := 65536) hx hb hown (hg _ kw_725) rfl d_Mo_utf_50 ?_
      refine W.eq (g2 := F0 m 52 ls [.int 65536, .int (nI c0)]) rfl ?_
      refine lv_icmp_ge (tgt := 97) hx hb d_Mo_utf_52 (by decide) (fun c_52 => ?_) (fun c_52 => ?_)
      · skip
        have f_52 : 65536 ≤ c0 := Nat.le_of_not_lt (fun z => nI_ge (b := 65536) z (by omega) c_52)
        refine lv_aload_n hx hb d_Mo_utf_97 rfl (lv_at hl 0 rfl) ?_
        refine lv_sipush (v := 240) hx hb d_Mo_utf_98 (by decide) ?_
        refine lv_iload_n hx hb d_Mo_utf_101 rfl (lv_at hl 1 rfl) ?_
        refine lv_bipush (v := 18) hx hb d_Mo_utf_102 (by decide) ?_
        refine lv_ishr hx hb d_Mo_utf_104 ?_
        refine lv_ior hx hb d_Mo_utf_105 ?_
        have hPc := hP.sub (ws' := [(mo, .inr (8, [.int th, .int fd, .ref rt, .int mn, .ref rk, .ref rv, .ref rw, .ref ro, .int md, .ref rr, .int (nI P.length), .ref ra, .long pz, .int kc, .ref rc, .ref rl, .ref rb, .int la, .int ca])), (ra, .inl (cB, 16400, .inl fa))]) [0, 1] rfl
        have hKc := hK.sub (tys' := [(cB, .byte)]) [0] rfl
        have hDc := hD.sub (ws' := [(mo, .inr (8, [.int th, .int fd, .ref rt, .int mn, .ref rk, .ref rv, .ref rw, .ref ro, .int md, .ref rr, .int (nI P.length), .ref ra, .long pz, .int kc, .ref rc, .ref rl, .ref rb, .int la, .int ca])), (ra, .inl (cB, 16400, .inl fa))]) [0, 1] (by decide) rfl
        have hFc := va_free (wc := [(mo, .inr (8, [.int th, .int fd, .ref rt, .int mn, .ref rk, .ref rv, .ref rw, .ref ro, .int md, .ref rr, .int (nI P.length), .ref ra, .long pz, .int kc, .ref rc, .ref rl, .ref rb, .int la, .int ca])), (ra, .inl (cB, 16400, .inl fa))]) hD hS hA [0, 1] rfl
        refine zz_callv (va_runV (As := [.int (240 ||| ((nI c0) >>> ((18 : Int32) &&& 31)))]) (rest := []) ⟨hx, hb, hml, hown, hg⟩ (c_Mo_put l dC dI mo rt rk rv rw ro rr ra rc rl rb th fd mn md (nI P.length) pz kc la ca cB fa P (240 ||| ((nI c0) >>> ((18 : Int32) &&& 31))) hLa (by (try simp only [List.length_append, List.length_cons, List.length_nil]); omega) s.heap.size) (cwV 1 hg (gi_V kw_863 kw_865 sw_16 kw_9 kw_866) rfl rfl rfl (by decide +kernel) ⟨Nat.le_of_ble_eq_true rfl, Nat.le_of_ble_eq_true rfl⟩) (zz_preV hPc hKc hDc _ (q0 := 0) (ci := 8) rfl rfl) rfl rfl hl.1 rfl (lv_room (Nat.le_of_ble_eq_true rfl)) d_Mo_utf_106 ⟨Nat.le_of_ble_eq_true rfl, Nat.le_of_ble_eq_true rfl⟩) hS hFc (fun u H1 k9 p9 d9 => va_join (wr := []) hP hD [0, 1] [] rfl rfl (by decide) (by decide) k9 hFc p9 d9) (fun u H locs hw hP hD hK1 hS => ?_)
        obtain ⟨u_1, rfl⟩ : ∃ z, z = u := ⟨_, rfl⟩
        try dsimp only at hw
        have hP : va_P (dC, dI) vwCl [(mo, .inr (8, [.int th, .int fd, .ref rt, .int mn, .ref rk, .ref rv, .ref rw, .ref ro, .int md, .ref rr, .int (nI (P ++ [by_b (240 ||| ((nI c0) >>> ((18 : Int32) &&& 31)))]).length), .ref ra, .long pz, .int kc, .ref rc, .ref rl, .ref rb, .int la, .int ca])), (ra, .inl (cB, 16400, .inl u_1))] H := hP
        have hD : va_D A [(mo, .inr (8, [.int th, .int fd, .ref rt, .int mn, .ref rk, .ref rv, .ref rw, .ref ro, .int md, .ref rr, .int (nI (P ++ [by_b (240 ||| ((nI c0) >>> ((18 : Int32) &&& 31)))]).length), .ref ra, .long pz, .int kc, .ref rc, .ref rl, .ref rb, .int la, .int ca])), (ra, .inl (cB, 16400, .inl u_1))] := hD
        have hL_3 := hw
        refine lv_aload_n hx hb d_Mo_utf_109 rfl (lv_at hl 0 rfl) ?_
        refine lv_sipush (v := 128) hx hb d_Mo_utf_110 (by decide) ?_
        refine lv_iload_n hx hb d_Mo_utf_113 rfl (lv_at hl 1 rfl) ?_
        refine lv_bipush (v := 12) hx hb d_Mo_utf_114 (by decide) ?_
        refine lv_ishr hx hb d_Mo_utf_116 ?_
        refine lv_bipush (v := 63) hx hb d_Mo_utf_117 (by decide) ?_
        refine lv_iand hx hb d_Mo_utf_119 ?_
        refine lv_ior hx hb d_Mo_utf_120 ?_
        have hPc := hP.sub (ws' := [(mo, .inr (8, [.int th, .int fd, .ref rt, .int mn, .ref rk, .ref rv, .ref rw, .ref ro, .int md, .ref rr, .int (nI (P ++ [by_b (240 ||| ((nI c0) >>> ((18 : Int32) &&& 31)))]).length), .ref ra, .long pz, .int kc, .ref rc, .ref rl, .ref rb, .int la, .int ca])), (ra, .inl (cB, 16400, .inl u_1))]) [0, 1] rfl
        have hKc := hK.sub (tys' := [(cB, .byte)]) [0] rfl
        have hDc := hD.sub (ws' := [(mo, .inr (8, [.int th, .int fd, .ref rt, .int mn, .ref rk, .ref rv, .ref rw, .ref ro, .int md, .ref rr, .int (nI (P ++ [by_b (240 ||| ((nI c0) >>> ((18 : Int32) &&& 31)))]).length), .ref ra, .long pz, .int kc, .ref rc, .ref rl, .ref rb, .int la, .int ca])), (ra, .inl (cB, 16400, .inl u_1))]) [0, 1] (by decide) rfl
        have hFc := va_free (wc := [(mo, .inr (8, [.int th, .int fd, .ref rt, .int mn, .ref rk, .ref rv, .ref rw, .ref ro, .int md, .ref rr, .int (nI (P ++ [by_b (240 ||| ((nI c0) >>> ((18 : Int32) &&& 31)))]).length), .ref ra, .long pz, .int kc, .ref rc, .ref rl, .ref rb, .int la, .int ca])), (ra, .inl (cB, 16400, .inl u_1))]) hD hS hA [0, 1] rfl
        refine zz_callv (va_runV (As := [.int (128 ||| (((nI c0) >>> ((12 : Int32) &&& 31)) &&& 63))]) (rest := []) ⟨hx, hb, hml, hown, hg⟩ (c_Mo_put l dC dI mo rt rk rv rw ro rr ra rc rl rb th fd mn md (nI (P ++ [by_b (240 ||| ((nI c0) >>> ((18 : Int32) &&& 31)))]).length) pz kc la ca cB u_1 (P ++ [by_b (240 ||| ((nI c0) >>> ((18 : Int32) &&& 31)))]) (128 ||| (((nI c0) >>> ((12 : Int32) &&& 31)) &&& 63)) hL_3 (by (try simp only [List.length_append, List.length_cons, List.length_nil]); omega) H.size) (cwV 1 hg (gi_V kw_863 kw_865 sw_16 kw_9 kw_866) rfl rfl rfl (by decide +kernel) ⟨Nat.le_of_ble_eq_true rfl, Nat.le_of_ble_eq_true rfl⟩) (zz_preV hPc hKc hDc _ (q0 := 0) (ci := 8) rfl rfl) rfl rfl hl.1 rfl (lv_room (Nat.le_of_ble_eq_true rfl)) d_Mo_utf_121 ⟨Nat.le_of_ble_eq_true rfl, Nat.le_of_ble_eq_true rfl⟩) hS hFc (fun u H1 k9 p9 d9 => va_join (wr := []) hP hD [0, 1] [] rfl rfl (by decide) (by decide) k9 hFc p9 d9) (fun u H locs hw hP hD hK1 hS => ?_)
        obtain ⟨u_4, rfl⟩ : ∃ z, z = u := ⟨_, rfl⟩
        try dsimp only at hw
        have hP : va_P (dC, dI) vwCl [(mo, .inr (8, [.int th, .int fd, .ref rt, .int mn, .ref rk, .ref rv, .ref rw, .ref ro, .int md, .ref rr, .int (nI ((P ++ [by_b (240 ||| ((nI c0) >>> ((18 : Int32) &&& 31)))]) ++ [by_b (128 ||| (((nI c0) >>> ((12 : Int32) &&& 31)) &&& 63))]).length), .ref ra, .long pz, .int kc, .ref rc, .ref rl, .ref rb, .int la, .int ca])), (ra, .inl (cB, 16400, .inl u_4))] H := hP
        have hD : va_D A [(mo, .inr (8, [.int th, .int fd, .ref rt, .int mn, .ref rk, .ref rv, .ref rw, .ref ro, .int md, .ref rr, .int (nI ((P ++ [by_b (240 ||| ((nI c0) >>> ((18 : Int32) &&& 31)))]) ++ [by_b (128 ||| (((nI c0) >>> ((12 : Int32) &&& 31)) &&& 63))]).length), .ref ra, .long pz, .int kc, .ref rc, .ref rl, .ref rb, .int la, .int ca])), (ra, .inl (cB, 16400, .inl u_4))] := hD
        have hL_6 := hw
        refine lv_aload_n hx hb d_Mo_utf_124 rfl (lv_at hl 0 rfl) ?_
        refine lv_sipush (v := 128) hx hb d_Mo_utf_125 (by decide) ?_
        refine lv_iload_n hx hb d_Mo_utf_128 rfl (lv_at hl 1 rfl) ?_
        refine lv_bipush (v := 6) hx hb d_Mo_utf_129 (by decide) ?_
        refine lv_ishr hx hb d_Mo_utf_131 ?_
        refine lv_bipush (v := 63) hx hb d_Mo_utf_132 (by decide) ?_
        refine lv_iand hx hb d_Mo_utf_134 ?_
        refine lv_ior hx hb d_Mo_utf_135 ?_
        have hPc := hP.sub (ws' := [(mo, .inr (8, [.int th, .int fd, .ref rt, .int mn, .ref rk, .ref rv, .ref rw, .ref ro, .int md, .ref rr, .int (nI ((P ++ [by_b (240 ||| ((nI c0) >>> ((18 : Int32) &&& 31)))]) ++ [by_b (128 ||| (((nI c0) >>> ((12 : Int32) &&& 31)) &&& 63))]).length), .ref ra, .long pz, .int kc, .ref rc, .ref rl, .ref rb, .int la, .int ca])), (ra, .inl (cB, 16400, .inl u_4))]) [0, 1] rfl
        have hKc := hK.sub (tys' := [(cB, .byte)]) [0] rfl
        have hDc := hD.sub (ws' := [(mo, .inr (8, [.int th, .int fd, .ref rt, .int mn, .ref rk, .ref rv, .ref rw, .ref ro, .int md, .ref rr, .int (nI ((P ++ [by_b (240 ||| ((nI c0) >>> ((18 : Int32) &&& 31)))]) ++ [by_b (128 ||| (((nI c0) >>> ((12 : Int32) &&& 31)) &&& 63))]).length), .ref ra, .long pz, .int kc, .ref rc, .ref rl, .ref rb, .int la, .int ca])), (ra, .inl (cB, 16400, .inl u_4))]) [0, 1] (by decide) rfl
        have hFc := va_free (wc := [(mo, .inr (8, [.int th, .int fd, .ref rt, .int mn, .ref rk, .ref rv, .ref rw, .ref ro, .int md, .ref rr, .int (nI ((P ++ [by_b (240 ||| ((nI c0) >>> ((18 : Int32) &&& 31)))]) ++ [by_b (128 ||| (((nI c0) >>> ((12 : Int32) &&& 31)) &&& 63))]).length), .ref ra, .long pz, .int kc, .ref rc, .ref rl, .ref rb, .int la, .int ca])), (ra, .inl (cB, 16400, .inl u_4))]) hD hS hA [0, 1] rfl
        refine zz_callv (va_runV (As := [.int (128 ||| (((nI c0) >>> ((6 : Int32) &&& 31)) &&& 63))]) (rest := []) ⟨hx, hb, hml, hown, hg⟩ (c_Mo_put l dC dI mo rt rk rv rw ro rr ra rc rl rb th fd mn md (nI ((P ++ [by_b (240 ||| ((nI c0) >>> ((18 : Int32) &&& 31)))]) ++ [by_b (128 ||| (((nI c0) >>> ((12 : Int32) &&& 31)) &&& 63))]).length) pz kc la ca cB u_4 ((P ++ [by_b (240 ||| ((nI c0) >>> ((18 : Int32) &&& 31)))]) ++ [by_b (128 ||| (((nI c0) >>> ((12 : Int32) &&& 31)) &&& 63))]) (128 ||| (((nI c0) >>> ((6 : Int32) &&& 31)) &&& 63)) hL_6 (by (try simp only [List.length_append, List.length_cons, List.length_nil]); omega) H.size) (cwV 1 hg (gi_V kw_863 kw_865 sw_16 kw_9 kw_866) rfl rfl rfl (by decide +kernel) ⟨Nat.le_of_ble_eq_true rfl, Nat.le_of_ble_eq_true rfl⟩) (zz_preV hPc hKc hDc _ (q0 := 0) (ci := 8) rfl rfl) rfl rfl hl.1 rfl (lv_room (Nat.le_of_ble_eq_true rfl)) d_Mo_utf_136 ⟨Nat.le_of_ble_eq_true rfl, Nat.le_of_ble_eq_true rfl⟩) hS hFc (fun u H1 k9 p9 d9 => va_join (wr := []) hP hD [0, 1] [] rfl rfl (by decide) (by decide) k9 hFc p9 d9) (fun u H locs hw hP hD hK1 hS => ?_)
        obtain ⟨u_7, rfl⟩ : ∃ z, z = u := ⟨_, rfl⟩
        try dsimp only at hw
        have hP : va_P (dC, dI) vwCl [(mo, .inr (8, [.int th, .int fd, .ref rt, .int mn, .ref rk, .ref rv, .ref rw, .ref ro, .int md, .ref rr, .int (nI (((P ++ [by_b (240 ||| ((nI c0) >>> ((18 : Int32) &&& 31)))]) ++ [by_b (128 ||| (((nI c0) >>> ((12 : Int32) &&& 31)) &&& 63))]) ++ [by_b (128 ||| (((nI c0) >>> ((6 : Int32) &&& 31)) &&& 63))]).length), .ref ra, .long pz, .int kc, .ref rc, .ref rl, .ref rb, .int la, .int ca])), (ra, .inl (cB, 16400, .inl u_7))] H := hP
        have hD : va_D A [(mo, .inr (8, [.int th, .int fd, .ref rt, .int mn, .ref rk, .ref rv, .ref rw, .ref ro, .int md, .ref rr, .int (nI (((P ++ [by_b (240 ||| ((nI c0) >>> ((18 : Int32) &&& 31)))]) ++ [by_b (128 ||| (((nI c0) >>> ((12 : Int32) &&& 31)) &&& 63))]) ++ [by_b (128 ||| (((nI c0) >>> ((6 : Int32) &&& 31)) &&& 63))]).length), .ref ra, .long pz, .int kc, .ref rc, .ref rl, .ref rb, .int la, .int ca])), (ra, .inl (cB, 16400, .inl u_7))] := hD
        have hL_9 := hw
        refine lv_aload_n hx hb d_Mo_utf_139 rfl (lv_at hl 0 rfl) ?_
        refine lv_sipush (v := 128) hx hb d_Mo_utf_140 (by decide) ?_
        refine lv_iload_n hx hb d_Mo_utf_143 rfl (lv_at hl 1 rfl) ?_
        refine lv_bipush (v := 63) hx hb d_Mo_utf_144 (by decide) ?_
        refine lv_iand hx hb d_Mo_utf_146 ?_
        refine lv_ior hx hb d_Mo_utf_147 ?_
        have hPc := hP.sub (ws' := [(mo, .inr (8, [.int th, .int fd, .ref rt, .int mn, .ref rk, .ref rv, .ref rw, .ref ro, .int md, .ref rr, .int (nI (((P ++ [by_b (240 ||| ((nI c0) >>> ((18 : Int32) &&& 31)))]) ++ [by_b (128 ||| (((nI c0) >>> ((12 : Int32) &&& 31)) &&& 63))]) ++ [by_b (128 ||| (((nI c0) >>> ((6 : Int32) &&& 31)) &&& 63))]).length), .ref ra, .long pz, .int kc, .ref rc, .ref rl, .ref rb, .int la, .int ca])), (ra, .inl (cB, 16400, .inl u_7))]) [0, 1] rfl
        have hKc := hK.sub (tys' := [(cB, .byte)]) [0] rfl
        have hDc := hD.sub (ws' := [(mo, .inr (8, [.int th, .int fd, .ref rt, .int mn, .ref rk, .ref rv, .ref rw, .ref ro, .int md, .ref rr, .int (nI (((P ++ [by_b (240 ||| ((nI c0) >>> ((18 : Int32) &&& 31)))]) ++ [by_b (128 ||| (((nI c0) >>> ((12 : Int32) &&& 31)) &&& 63))]) ++ [by_b (128 ||| (((nI c0) >>> ((6 : Int32) &&& 31)) &&& 63))]).length), .ref ra, .long pz, .int kc, .ref rc, .ref rl, .ref rb, .int la, .int ca])), (ra, .inl (cB, 16400, .inl u_7))]) [0, 1] (by decide) rfl
        have hFc := va_free (wc := [(mo, .inr (8, [.int th, .int fd, .ref rt, .int mn, .ref rk, .ref rv, .ref rw, .ref ro, .int md, .ref rr, .int (nI (((P ++ [by_b (240 ||| ((nI c0) >>> ((18 : Int32) &&& 31)))]) ++ [by_b (128 ||| (((nI c0) >>> ((12 : Int32) &&& 31)) &&& 63))]) ++ [by_b (128 ||| (((nI c0) >>> ((6 : Int32) &&& 31)) &&& 63))]).length), .ref ra, .long pz, .int kc, .ref rc, .ref rl, .ref rb, .int la, .int ca])), (ra, .inl (cB, 16400, .inl u_7))]) hD hS hA [0, 1] rfl
        refine zz_callv (va_runV (As := [.int (128 ||| ((nI c0) &&& 63))]) (rest := []) ⟨hx, hb, hml, hown, hg⟩ (c_Mo_put l dC dI mo rt rk rv rw ro rr ra rc rl rb th fd mn md (nI (((P ++ [by_b (240 ||| ((nI c0) >>> ((18 : Int32) &&& 31)))]) ++ [by_b (128 ||| (((nI c0) >>> ((12 : Int32) &&& 31)) &&& 63))]) ++ [by_b (128 ||| (((nI c0) >>> ((6 : Int32) &&& 31)) &&& 63))]).length) pz kc la ca cB u_7 (((P ++ [by_b (240 ||| ((nI c0) >>> ((18 : Int32) &&& 31)))]) ++ [by_b (128 ||| (((nI c0) >>> ((12 : Int32) &&& 31)) &&& 63))]) ++ [by_b (128 ||| (((nI c0) >>> ((6 : Int32) &&& 31)) &&& 63))]) (128 ||| ((nI c0) &&& 63)) hL_9 (by (try simp only [List.length_append, List.length_cons, List.length_nil]); omega) H.size) (cwV 1 hg (gi_V kw_863 kw_865 sw_16 kw_9 kw_866) rfl rfl rfl (by decide +kernel) ⟨Nat.le_of_ble_eq_true rfl, Nat.le_of_ble_eq_true rfl⟩) (zz_preV hPc hKc hDc _ (q0 := 0) (ci := 8) rfl rfl) rfl rfl hl.1 rfl (lv_room (Nat.le_of_ble_eq_true rfl)) d_Mo_utf_148 ⟨Nat.le_of_ble_eq_true rfl, Nat.le_of_ble_eq_true rfl⟩) hS hFc (fun u H1 k9 p9 d9 => va_join (wr := []) hP hD [0, 1] [] rfl rfl (by decide) (by decide) k9 hFc p9 d9) (fun u H locs hw hP hD hK1 hS => ?_)
        obtain ⟨u_10, rfl⟩ : ∃ z, z = u := ⟨_, rfl⟩
        try dsimp only at hw
        have hP : va_P (dC, dI) vwCl [(mo, .inr (8, [.int th, .int fd, .ref rt, .int mn, .ref rk, .ref rv, .ref rw, .ref ro, .int md, .ref rr, .int (nI ((((P ++ [by_b (240 ||| ((nI c0) >>> ((18 : Int32) &&& 31)))]) ++ [by_b (128 ||| (((nI c0) >>> ((12 : Int32) &&& 31)) &&& 63))]) ++ [by_b (128 ||| (((nI c0) >>> ((6 : Int32) &&& 31)) &&& 63))]) ++ [by_b (128 ||| ((nI c0) &&& 63))]).length), .ref ra, .long pz, .int kc, .ref rc, .ref rl, .ref rb, .int la, .int ca])), (ra, .inl (cB, 16400, .inl u_10))] H := hP
        have hD : va_D A [(mo, .inr (8, [.int th, .int fd, .ref rt, .int mn, .ref rk, .ref rv, .ref rw, .ref ro, .int md, .ref rr, .int (nI ((((P ++ [by_b (240 ||| ((nI c0) >>> ((18 : Int32) &&& 31)))]) ++ [by_b (128 ||| (((nI c0) >>> ((12 : Int32) &&& 31)) &&& 63))]) ++ [by_b (128 ||| (((nI c0) >>> ((6 : Int32) &&& 31)) &&& 63))]) ++ [by_b (128 ||| ((nI c0) &&& 63))]).length), .ref ra, .long pz, .int kc, .ref rc, .ref rl, .ref rb, .int la, .int ca])), (ra, .inl (cB, 16400, .inl u_10))] := hD
        have hL_12 := hw
        have hP9 := hP.sub (ws' := [(mo, .inr (8, [.int th, .int fd, .ref rt, .int mn, .ref rk, .ref rv, .ref rw, .ref ro, .int md, .ref rr, .int (nI ((((P ++ [by_b (240 ||| ((nI c0) >>> ((18 : Int32) &&& 31)))]) ++ [by_b (128 ||| (((nI c0) >>> ((12 : Int32) &&& 31)) &&& 63))]) ++ [by_b (128 ||| (((nI c0) >>> ((6 : Int32) &&& 31)) &&& 63))]) ++ [by_b (128 ||| ((nI c0) &&& 63))]).length), .ref ra, .long pz, .int kc, .ref rc, .ref rl, .ref rb, .int la, .int ca])), (ra, .inl (cB, 16400, .inl u_10))]) [0, 1] rfl
        have hD9 := hD.sub (ws' := [(mo, .inr (8, [.int th, .int fd, .ref rt, .int mn, .ref rk, .ref rv, .ref rw, .ref ro, .int md, .ref rr, .int (nI ((((P ++ [by_b (240 ||| ((nI c0) >>> ((18 : Int32) &&& 31)))]) ++ [by_b (128 ||| (((nI c0) >>> ((12 : Int32) &&& 31)) &&& 63))]) ++ [by_b (128 ||| (((nI c0) >>> ((6 : Int32) &&& 31)) &&& 63))]) ++ [by_b (128 ||| ((nI c0) &&& 63))]).length), .ref ra, .long pz, .int kc, .ref rc, .ref rl, .ref rb, .int la, .int ca])), (ra, .inl (cB, 16400, .inl u_10))]) [0, 1] (by decide) rfl
        have hK9 := hK.sub (tys' := [(cB, .byte)]) [0] rfl
        rw [show ((((P ++ [by_b (240 ||| ((nI c0) >>> ((18 : Int32) &&& 31)))]) ++ [by_b (128 ||| (((nI c0) >>> ((12 : Int32) &&& 31)) &&& 63))]) ++ [by_b (128 ||| (((nI c0) >>> ((6 : Int32) &&& 31)) &&& 63))]) ++ [by_b (128 ||| ((nI c0) &&& 63))]) = (P ++ (ut_8 c0)) from mu_4 f_52 hc0] at hP9 hD9
        exact zz_vret hx hb hr hlocks d_Mo_utf_151 hS (by first | exact Nat.le_refl _ | decide | omega | (dsimp only; omega)) (by first | exact Nat.le_refl _ | decide | omega | (dsimp only; omega)) u_10 (by rw [show ((((P ++ [by_b (240 ||| ((nI c0) >>> ((18 : Int32) &&& 31)))]) ++ [by_b (128 ||| (((nI c0) >>> ((12 : Int32) &&& 31)) &&& 63))]) ++ [by_b (128 ||| (((nI c0) >>> ((6 : Int32) &&& 31)) &&& 63))]) ++ [by_b (128 ||| ((nI c0) &&& 63))]) = (P ++ (ut_8 c0)) from mu_4 f_52 hc0] at hL_12; exact hL_12) hP9 hK9 hD9
      · skip
        have f_52 : c0 < 65536 := Nat.lt_of_not_le (fun z => c_52 (nI_le (a := 65536) z (by omega)))
        refine lv_aload_n hx hb d_Mo_utf_55 rfl (lv_at hl 0 rfl) ?_
        refine lv_sipush (v := 224) hx hb d_Mo_utf_56 (by decide) ?_
        refine lv_iload_n hx hb d_Mo_utf_59 rfl (lv_at hl 1 rfl) ?_
        refine lv_bipush (v := 12) hx hb d_Mo_utf_60 (by decide) ?_
        refine lv_ishr hx hb d_Mo_utf_62 ?_
        refine lv_ior hx hb d_Mo_utf_63 ?_
        have hPc := hP.sub (ws' := [(mo, .inr (8, [.int th, .int fd, .ref rt, .int mn, .ref rk, .ref rv, .ref rw, .ref ro, .int md, .ref rr, .int (nI P.length), .ref ra, .long pz, .int kc, .ref rc, .ref rl, .ref rb, .int la, .int ca])), (ra, .inl (cB, 16400, .inl fa))]) [0, 1] rfl
        have hKc := hK.sub (tys' := [(cB, .byte)]) [0] rfl
        have hDc := hD.sub (ws' := [(mo, .inr (8, [.int th, .int fd, .ref rt, .int mn, .ref rk, .ref rv, .ref rw, .ref ro, .int md, .ref rr, .int (nI P.length), .ref ra, .long pz, .int kc, .ref rc, .ref rl, .ref rb, .int la, .int ca])), (ra, .inl (cB, 16400, .inl fa))]) [0, 1] (by decide) rfl
        have hFc := va_free (wc := [(mo, .inr (8, [.int th, .int fd, .ref rt, .int mn, .ref rk, .ref rv, .ref rw, .ref ro, .int md, .ref rr, .int (nI P.length), .ref ra, .long pz, .int kc, .ref rc, .ref rl, .ref rb, .int la, .int ca])), (ra, .inl (cB, 16400, .inl fa))]) hD hS hA [0, 1] rfl
        refine zz_callv (va_runV (As := [.int (224 ||| ((nI c0) >>> ((12 : Int32) &&& 31)))]) (rest := []) ⟨hx, hb, hml, hown, hg⟩ (c_Mo_put l dC dI mo rt rk rv rw ro rr ra rc rl rb th fd mn md (nI P.length) pz kc la ca cB fa P (224 ||| ((nI c0) >>> ((12 : Int32) &&& 31))) hLa (by (try simp only [List.length_append, List.length_cons, List.length_nil]); omega) s.heap.size) (cwV 1 hg (gi_V kw_863 kw_865 sw_16 kw_9 kw_866) rfl rfl rfl (by decide +kernel) ⟨Nat.le_of_ble_eq_true rfl, Nat.le_of_ble_eq_true rfl⟩) (zz_preV hPc hKc hDc _ (q0 := 0) (ci := 8) rfl rfl) rfl rfl hl.1 rfl (lv_room (Nat.le_of_ble_eq_true rfl)) d_Mo_utf_64 ⟨Nat.le_of_ble_eq_true rfl, Nat.le_of_ble_eq_true rfl⟩) hS hFc (fun u H1 k9 p9 d9 => va_join (wr := []) hP hD [0, 1] [] rfl rfl (by decide) (by decide) k9 hFc p9 d9) (fun u H locs hw hP hD hK1 hS => ?_)
        obtain ⟨u_13, rfl⟩ : ∃ z, z = u := ⟨_, rfl⟩
        try dsimp only at hw
        have hP : va_P (dC, dI) vwCl [(mo, .inr (8, [.int th, .int fd, .ref rt, .int mn, .ref rk, .ref rv, .ref rw, .ref ro, .int md, .ref rr, .int (nI (P ++ [by_b (224 ||| ((nI c0) >>> ((12 : Int32) &&& 31)))]).length), .ref ra, .long pz, .int kc, .ref rc, .ref rl, .ref rb, .int la, .int ca])), (ra, .inl (cB, 16400, .inl u_13))] H := hP
        have hD : va_D A [(mo, .inr (8, [.int th, .int fd, .ref rt, .int mn, .ref rk, .ref rv, .ref rw, .ref ro, .int md, .ref rr, .int (nI (P ++ [by_b (224 ||| ((nI c0) >>> ((12 : Int32) &&& 31)))]).length), .ref ra, .long pz, .int kc, .ref rc, .ref rl, .ref rb, .int la, .int ca])), (ra, .inl (cB, 16400, .inl u_13))] := hD
        have hL_15 := hw
        refine lv_aload_n hx hb d_Mo_utf_67 rfl (lv_at hl 0 rfl) ?_
        refine lv_sipush (v := 128) hx hb d_Mo_utf_68 (by decide) ?_
        refine lv_iload_n hx hb d_Mo_utf_71 rfl (lv_at hl 1 rfl) ?_
        refine lv_bipush (v := 6) hx hb d_Mo_utf_72 (by decide) ?_
        refine lv_ishr hx hb d_Mo_utf_74 ?_
        refine lv_bipush (v := 63) hx hb d_Mo_utf_75 (by decide) ?_
        refine lv_iand hx hb d_Mo_utf_77 ?_
        refine lv_ior hx hb d_Mo_utf_78 ?_
        have hPc := hP.sub (ws' := [(mo, .inr (8, [.int th, .int fd, .ref rt, .int mn, .ref rk, .ref rv, .ref rw, .ref ro, .int md, .ref rr, .int (nI (P ++ [by_b (224 ||| ((nI c0) >>> ((12 : Int32) &&& 31)))]).length), .ref ra, .long pz, .int kc, .ref rc, .ref rl, .ref rb, .int la, .int ca])), (ra, .inl (cB, 16400, .inl u_13))]) [0, 1] rfl
        have hKc := hK.sub (tys' := [(cB, .byte)]) [0] rfl
        have hDc := hD.sub (ws' := [(mo, .inr (8, [.int th, .int fd, .ref rt, .int mn, .ref rk, .ref rv, .ref rw, .ref ro, .int md, .ref rr, .int (nI (P ++ [by_b (224 ||| ((nI c0) >>> ((12 : Int32) &&& 31)))]).length), .ref ra, .long pz, .int kc, .ref rc, .ref rl, .ref rb, .int la, .int ca])), (ra, .inl (cB, 16400, .inl u_13))]) [0, 1] (by decide) rfl
        have hFc := va_free (wc := [(mo, .inr (8, [.int th, .int fd, .ref rt, .int mn, .ref rk, .ref rv, .ref rw, .ref ro, .int md, .ref rr, .int (nI (P ++ [by_b (224 ||| ((nI c0) >>> ((12 : Int32) &&& 31)))]).length), .ref ra, .long pz, .int kc, .ref rc, .ref rl, .ref rb, .int la, .int ca])), (ra, .inl (cB, 16400, .inl u_13))]) hD hS hA [0, 1] rfl
        refine zz_callv (va_runV (As := [.int (128 ||| (((nI c0) >>> ((6 : Int32) &&& 31)) &&& 63))]) (rest := []) ⟨hx, hb, hml, hown, hg⟩ (c_Mo_put l dC dI mo rt rk rv rw ro rr ra rc rl rb th fd mn md (nI (P ++ [by_b (224 ||| ((nI c0) >>> ((12 : Int32) &&& 31)))]).length) pz kc la ca cB u_13 (P ++ [by_b (224 ||| ((nI c0) >>> ((12 : Int32) &&& 31)))]) (128 ||| (((nI c0) >>> ((6 : Int32) &&& 31)) &&& 63)) hL_15 (by (try simp only [List.length_append, List.length_cons, List.length_nil]); omega) H.size) (cwV 1 hg (gi_V kw_863 kw_865 sw_16 kw_9 kw_866) rfl rfl rfl (by decide +kernel) ⟨Nat.le_of_ble_eq_true rfl, Nat.le_of_ble_eq_true rfl⟩) (zz_preV hPc hKc hDc _ (q0 := 0) (ci := 8) rfl rfl) rfl rfl hl.1 rfl (lv_room (Nat.le_of_ble_eq_true rfl)) d_Mo_utf_79 ⟨Nat.le_of_ble_eq_true rfl, Nat.le_of_ble_eq_true rfl⟩) hS hFc (fun u H1 k9 p9 d9 => va_join (wr := []) hP hD [0, 1] [] rfl rfl (by decide) (by decide) k9 hFc p9 d9) (fun u H locs hw hP hD hK1 hS => ?_)
        obtain ⟨u_16, rfl⟩ : ∃ z, z = u := ⟨_, rfl⟩
        try dsimp only at hw
        have hP : va_P (dC, dI) vwCl [(mo, .inr (8, [.int th, .int fd, .ref rt, .int mn, .ref rk, .ref rv, .ref rw, .ref ro, .int md, .ref rr, .int (nI ((P ++ [by_b (224 ||| ((nI c0) >>> ((12 : Int32) &&& 31)))]) ++ [by_b (128 ||| (((nI c0) >>> ((6 : Int32) &&& 31)) &&& 63))]).length), .ref ra, .long pz, .int kc, .ref rc, .ref rl, .ref rb, .int la, .int ca])), (ra, .inl (cB, 16400, .inl u_16))] H := hP
        have hD : va_D A [(mo, .inr (8, [.int th, .int fd, .ref rt, .int mn, .ref rk, .ref rv, .ref rw, .ref ro, .int md, .ref rr, .int (nI ((P ++ [by_b (224 ||| ((nI c0) >>> ((12 : Int32) &&& 31)))]) ++ [by_b (128 ||| (((nI c0) >>> ((6 : Int32) &&& 31)) &&& 63))]).length), .ref ra, .long pz, .int kc, .ref rc, .ref rl, .ref rb, .int la, .int ca])), (ra, .inl (cB, 16400, .inl u_16))] := hD
        have hL_18 := hw
        refine lv_aload_n hx hb d_Mo_utf_82 rfl (lv_at hl 0 rfl) ?_
        refine lv_sipush (v := 128) hx hb d_Mo_utf_83 (by decide) ?_
        refine lv_iload_n hx hb d_Mo_utf_86 rfl (lv_at hl 1 rfl) ?_
        refine lv_bipush (v := 63) hx hb d_Mo_utf_87 (by decide) ?_
        refine lv_iand hx hb d_Mo_utf_89 ?_
        refine lv_ior hx hb d_Mo_utf_90 ?_
        have hPc := hP.sub (ws' := [(mo, .inr (8, [.int th, .int fd, .ref rt, .int mn, .ref rk, .ref rv, .ref rw, .ref ro, .int md, .ref rr, .int (nI ((P ++ [by_b (224 ||| ((nI c0) >>> ((12 : Int32) &&& 31)))]) ++ [by_b (128 ||| (((nI c0) >>> ((6 : Int32) &&& 31)) &&& 63))]).length), .ref ra, .long pz, .int kc, .ref rc, .ref rl, .ref rb, .int la, .int ca])), (ra, .inl (cB, 16400, .inl u_16))]) [0, 1] rfl
        have hKc := hK.sub (tys' := [(cB, .byte)]) [0] rfl
        have hDc := hD.sub (ws' := [(mo, .inr (8, [.int th, .int fd, .ref rt, .int mn, .ref rk, .ref rv, .ref rw, .ref ro, .int md, .ref rr, .int (nI ((P ++ [by_b (224 ||| ((nI c0) >>> ((12 : Int32) &&& 31)))]) ++ [by_b (128 ||| (((nI c0) >>> ((6 : Int32) &&& 31)) &&& 63))]).length), .ref ra, .long pz, .int kc, .ref rc, .ref rl, .ref rb, .int la, .int ca])), (ra, .inl (cB, 16400, .inl u_16))]) [0, 1] (by decide) rfl
        have hFc := va_free (wc := [(mo, .inr (8, [.int th, .int fd, .ref rt, .int mn, .ref rk, .ref rv, .ref rw, .ref ro, .int md, .ref rr, .int (nI ((P ++ [by_b (224 ||| ((nI c0) >>> ((12 : Int32) &&& 31)))]) ++ [by_b (128 ||| (((nI c0) >>> ((6 : Int32) &&& 31)) &&& 63))]).length), .ref ra, .long pz, .int kc, .ref rc, .ref rl, .ref rb, .int la, .int ca])), (ra, .inl (cB, 16400, .inl u_16))]) hD hS hA [0, 1] rfl
        refine zz_callv (va_runV (As := [.int (128 ||| ((nI c0) &&& 63))]) (rest := []) ⟨hx, hb, hml, hown, hg⟩ (c_Mo_put l dC dI mo rt rk rv rw ro rr ra rc rl rb th fd mn md (nI ((P ++ [by_b (224 ||| ((nI c0) >>> ((12 : Int32) &&& 31)))]) ++ [by_b (128 ||| (((nI c0) >>> ((6 : Int32) &&& 31)) &&& 63))]).length) pz kc la ca cB u_16 ((P ++ [by_b (224 ||| ((nI c0) >>> ((12 : Int32) &&& 31)))]) ++ [by_b (128 ||| (((nI c0) >>> ((6 : Int32) &&& 31)) &&& 63))]) (128 ||| ((nI c0) &&& 63)) hL_18 (by (try simp only [List.length_append, List.length_cons, List.length_nil]); omega) H.size) (cwV 1 hg (gi_V kw_863 kw_865 sw_16 kw_9 kw_866) rfl rfl rfl (by decide +kernel) ⟨Nat.le_of_ble_eq_true rfl, Nat.le_of_ble_eq_true rfl⟩) (zz_preV hPc hKc hDc _ (q0 := 0) (ci := 8) rfl rfl) rfl rfl hl.1 rfl (lv_room (Nat.le_of_ble_eq_true rfl)) d_Mo_utf_91 ⟨Nat.le_of_ble_eq_true rfl, Nat.le_of_ble_eq_true rfl⟩) hS hFc (fun u H1 k9 p9 d9 => va_join (wr := []) hP hD [0, 1] [] rfl rfl (by decide) (by decide) k9 hFc p9 d9) (fun u H locs hw hP hD hK1 hS => ?_)
        obtain ⟨u_19, rfl⟩ : ∃ z, z = u := ⟨_, rfl⟩
        try dsimp only at hw
        have hP : va_P (dC, dI) vwCl [(mo, .inr (8, [.int th, .int fd, .ref rt, .int mn, .ref rk, .ref rv, .ref rw, .ref ro, .int md, .ref rr, .int (nI (((P ++ [by_b (224 ||| ((nI c0) >>> ((12 : Int32) &&& 31)))]) ++ [by_b (128 ||| (((nI c0) >>> ((6 : Int32) &&& 31)) &&& 63))]) ++ [by_b (128 ||| ((nI c0) &&& 63))]).length), .ref ra, .long pz, .int kc, .ref rc, .ref rl, .ref rb, .int la, .int ca])), (ra, .inl (cB, 16400, .inl u_19))] H := hP
        have hD : va_D A [(mo, .inr (8, [.int th, .int fd, .ref rt, .int mn, .ref rk, .ref rv, .ref rw, .ref ro, .int md, .ref rr, .int (nI (((P ++ [by_b (224 ||| ((nI c0) >>> ((12 : Int32) &&& 31)))]) ++ [by_b (128 ||| (((nI c0) >>> ((6 : Int32) &&& 31)) &&& 63))]) ++ [by_b (128 ||| ((nI c0) &&& 63))]).length), .ref ra, .long pz, .int kc, .ref rc, .ref rl, .ref rb, .int la, .int ca])), (ra, .inl (cB, 16400, .inl u_19))] := hD
        have hL_21 := hw
        refine lv_goto (tgt := 151) hx hb d_Mo_utf_94 (by decide) ?_
        have hP9 := hP.sub (ws' := [(mo, .inr (8, [.int th, .int fd, .ref rt, .int mn, .ref rk, .ref rv, .ref rw, .ref ro, .int md, .ref rr, .int (nI (((P ++ [by_b (224 ||| ((nI c0) >>> ((12 : Int32) &&& 31)))]) ++ [by_b (128 ||| (((nI c0) >>> ((6 : Int32) &&& 31)) &&& 63))]) ++ [by_b (128 ||| ((nI c0) &&& 63))]).length), .ref ra, .long pz, .int kc, .ref rc, .ref rl, .ref rb, .int la, .int ca])), (ra, .inl (cB, 16400, .inl u_19))]) [0, 1] rfl
        have hD9 := hD.sub (ws' := [(mo, .inr (8, [.int th, .int fd, .ref rt, .int mn, .ref rk, .ref rv, .ref rw, .ref ro, .int md, .ref rr, .int (nI (((P ++ [by_b (224 ||| ((nI c0) >>> ((12 : Int32) &&& 31)))]) ++ [by_b (128 ||| (((nI c0) >>> ((6 : Int32) &&& 31)) &&& 63))]) ++ [by_b (128 ||| ((nI c0) &&& 63))]).length), .ref ra, .long pz, .int kc, .ref rc, .ref rl, .ref rb, .int la, .int ca])), (ra, .inl (cB, 16400, .inl u_19))]) [0, 1] (by decide) rfl
        have hK9 := hK.sub (tys' := [(cB, .byte)]) [0] rfl
        rw [show (((P ++ [by_b (224 ||| ((nI c0) >>> ((12 : Int32) &&& 31)))]) ++ [by_b (128 ||| (((nI c0) >>> ((6 : Int32) &&& 31)) &&& 63))]) ++ [by_b (128 ||| ((nI c0) &&& 63))]) = (P ++ (ut_8 c0)) from mu_3 f_19 f_52] at hP9 hD9
        exact zz_vret hx hb hr hlocks d_Mo_utf_151 hS (by first | exact Nat.le_refl _ | decide | omega | (dsimp only; omega)) (by first | exact Nat.le_refl _ | decide | omega | (dsimp only; omega)) u_19 (by rw [show (((P ++ [by_b (224 ||| ((nI c0) >>> ((12 : Int32) &&& 31)))]) ++ [by_b (128 ||| (((nI c0) >>> ((6 : Int32) &&& 31)) &&& 63))]) ++ [by_b (128 ||| ((nI c0) &&& 63))]) = (P ++ (ut_8 c0)) from mu_3 f_19 f_52] at hL_21; exact hL_21) hP9 hK9 hD9
    · skip
      have f_19 : c0 < 2048 := Nat.lt_of_not_le (fun z => c_19 (nI_le (a := 2048) z (by omega)))
      refine lv_aload_n hx hb d_Mo_utf_22 rfl (lv_at hl 0 rfl) ?_
      refine lv_sipush (v := 192) hx hb d_Mo_utf_23 (by decide) ?_
      refine lv_iload_n hx hb d_Mo_utf_26 rfl (lv_at hl 1 rfl) ?_
      refine lv_bipush (v := 6) hx hb d_Mo_utf_27 (by decide) ?_
      refine lv_ishr hx hb d_Mo_utf_29 ?_
      refine lv_ior hx hb d_Mo_utf_30 ?_
      have hPc := hP.sub (ws' := [(mo, .inr (8, [.int th, .int fd, .ref rt, .int mn, .ref rk, .ref rv, .ref rw, .ref ro, .int md, .ref rr, .int (nI P.length), .ref ra, .long pz, .int kc, .ref rc, .ref rl, .ref rb, .int la, .int ca])), (ra, .inl (cB, 16400, .inl fa))]) [0, 1] rfl
      have hKc := hK.sub (tys' := [(cB, .byte)]) [0] rfl
      have hDc := hD.sub (ws' := [(mo, .inr (8, [.int th, .int fd, .ref rt, .int mn, .ref rk, .ref rv, .ref rw, .ref ro, .int md, .ref rr, .int (nI P.length), .ref ra, .long pz, .int kc, .ref rc, .ref rl, .ref rb, .int la, .int ca])), (ra, .inl (cB, 16400, .inl fa))]) [0, 1] (by decide) rfl
      have hFc := va_free (wc := [(mo, .inr (8, [.int th, .int fd, .ref rt, .int mn, .ref rk, .ref rv, .ref rw, .ref ro, .int md, .ref rr, .int (nI P.length), .ref ra, .long pz, .int kc, .ref rc, .ref rl, .ref rb, .int la, .int ca])), (ra, .inl (cB, 16400, .inl fa))]) hD hS hA [0, 1] rfl
      refine zz_callv (va_runV (As := [.int (192 ||| ((nI c0) >>> ((6 : Int32) &&& 31)))]) (rest := []) ⟨hx, hb, hml, hown, hg⟩ (c_Mo_put l dC dI mo rt rk rv rw ro rr ra rc rl rb th fd mn md (nI P.length) pz kc la ca cB fa P (192 ||| ((nI c0) >>> ((6 : Int32) &&& 31))) hLa (by (try simp only [List.length_append, List.length_cons, List.length_nil]); omega) s.heap.size) (cwV 1 hg (gi_V kw_863 kw_865 sw_16 kw_9 kw_866) rfl rfl rfl (by decide +kernel) ⟨Nat.le_of_ble_eq_true rfl, Nat.le_of_ble_eq_true rfl⟩) (zz_preV hPc hKc hDc _ (q0 := 0) (ci := 8) rfl rfl) rfl rfl hl.1 rfl (lv_room (Nat.le_of_ble_eq_true rfl)) d_Mo_utf_31 ⟨Nat.le_of_ble_eq_true rfl, Nat.le_of_ble_eq_true rfl⟩) hS hFc (fun u H1 k9 p9 d9 => va_join (wr := []) hP hD [0, 1] [] rfl rfl (by decide) (by decide) k9 hFc p9 d9) (fun u H locs hw hP hD hK1 hS => ?_)
      obtain ⟨u_22, rfl⟩ : ∃ z, z = u := ⟨_, rfl⟩
      try dsimp only at hw
      have hP : va_P (dC, dI) vwCl [(mo, .inr (8, [.int th, .int fd, .ref rt, .int mn, .ref rk, .ref rv, .ref rw, .ref ro, .int md, .ref rr, .int (nI (P ++ [by_b (192 ||| ((nI c0) >>> ((6 : Int32) &&& 31)))]).length), .ref ra, .long pz, .int kc, .ref rc, .ref rl, .ref rb, .int la, .int ca])), (ra, .inl (cB, 16400, .inl u_22))] H := hP
      have hD : va_D A [(mo, .inr (8, [.int th, .int fd, .ref rt, .int mn, .ref rk, .ref rv, .ref rw, .ref ro, .int md, .ref rr, .int (nI (P ++ [by_b (192 ||| ((nI c0) >>> ((6 : Int32) &&& 31)))]).length), .ref ra, .long pz, .int kc, .ref rc, .ref rl, .ref rb, .int la, .int ca])), (ra, .inl (cB, 16400, .inl u_22))] := hD
      have hL_24 := hw
      refine lv_aload_n hx hb d_Mo_utf_34 rfl (lv_at hl 0 rfl) ?_
      refine lv_sipush (v := 128) hx hb d_Mo_utf_35 (by decide) ?_
      refine lv_iload_n hx hb d_Mo_utf_38 rfl (lv_at hl 1 rfl) ?_
      refine lv_bipush (v := 63) hx hb d_Mo_utf_39 (by decide) ?_
      refine lv_iand hx hb d_Mo_utf_41 ?_
      refine lv_ior hx hb d_Mo_utf_42 ?_
      have hPc := hP.sub (ws' := [(mo, .inr (8, [.int th, .int fd, .ref rt, .int mn, .ref rk, .ref rv, .ref rw, .ref ro, .int md, .ref rr, .int (nI (P ++ [by_b (192 ||| ((nI c0) >>> ((6 : Int32) &&& 31)))]).length), .ref ra, .long pz, .int kc, .ref rc, .ref rl, .ref rb, .int la, .int ca])), (ra, .inl (cB, 16400, .inl u_22))]) [0, 1] rfl
      have hKc := hK.sub (tys' := [(cB, .byte)]) [0] rfl
      have hDc := hD.sub (ws' := [(mo, .inr (8, [.int th, .int fd, .ref rt, .int mn, .ref rk, .ref rv, .ref rw, .ref ro, .int md, .ref rr, .int (nI (P ++ [by_b (192 ||| ((nI c0) >>> ((6 : Int32) &&& 31)))]).length), .ref ra, .long pz, .int kc, .ref rc, .ref rl, .ref rb, .int la, .int ca])), (ra, .inl (cB, 16400, .inl u_22))]) [0, 1] (by decide) rfl
      have hFc := va_free (wc := [(mo, .inr (8, [.int th, .int fd, .ref rt, .int mn, .ref rk, .ref rv, .ref rw, .ref ro, .int md, .ref rr, .int (nI (P ++ [by_b (192 ||| ((nI c0) >>> ((6 : Int32) &&& 31)))]).length), .ref ra, .long pz, .int kc, .ref rc, .ref rl, .ref rb, .int la, .int ca])), (ra, .inl (cB, 16400, .inl u_22))]) hD hS hA [0, 1] rfl
      refine zz_callv (va_runV (As := [.int (128 ||| ((nI c0) &&& 63))]) (rest := []) ⟨hx, hb, hml, hown, hg⟩ (c_Mo_put l dC dI mo rt rk rv rw ro rr ra rc rl rb th fd mn md (nI (P ++ [by_b (192 ||| ((nI c0) >>> ((6 : Int32) &&& 31)))]).length) pz kc la ca cB u_22 (P ++ [by_b (192 ||| ((nI c0) >>> ((6 : Int32) &&& 31)))]) (128 ||| ((nI c0) &&& 63)) hL_24 (by (try simp only [List.length_append, List.length_cons, List.length_nil]); omega) H.size) (cwV 1 hg (gi_V kw_863 kw_865 sw_16 kw_9 kw_866) rfl rfl rfl (by decide +kernel) ⟨Nat.le_of_ble_eq_true rfl, Nat.le_of_ble_eq_true rfl⟩) (zz_preV hPc hKc hDc _ (q0 := 0) (ci := 8) rfl rfl) rfl rfl hl.1 rfl (lv_room (Nat.le_of_ble_eq_true rfl)) d_Mo_utf_43 ⟨Nat.le_of_ble_eq_true rfl, Nat.le_of_ble_eq_true rfl⟩) hS hFc (fun u H1 k9 p9 d9 => va_join (wr := []) hP hD [0, 1] [] rfl rfl (by decide) (by decide) k9 hFc p9 d9) (fun u H locs hw hP hD hK1 hS => ?_)
      obtain ⟨u_25, rfl⟩ : ∃ z, z = u := ⟨_, rfl⟩
      try dsimp only at hw
      have hP : va_P (dC, dI) vwCl [(mo, .inr (8, [.int th, .int fd, .ref rt, .int mn, .ref rk, .ref rv, .ref rw, .ref ro, .int md, .ref rr, .int (nI ((P ++ [by_b (192 ||| ((nI c0) >>> ((6 : Int32) &&& 31)))]) ++ [by_b (128 ||| ((nI c0) &&& 63))]).length), .ref ra, .long pz, .int kc, .ref rc, .ref rl, .ref rb, .int la, .int ca])), (ra, .inl (cB, 16400, .inl u_25))] H := hP
      have hD : va_D A [(mo, .inr (8, [.int th, .int fd, .ref rt, .int mn, .ref rk, .ref rv, .ref rw, .ref ro, .int md, .ref rr, .int (nI ((P ++ [by_b (192 ||| ((nI c0) >>> ((6 : Int32) &&& 31)))]) ++ [by_b (128 ||| ((nI c0) &&& 63))]).length), .ref ra, .long pz, .int kc, .ref rc, .ref rl, .ref rb, .int la, .int ca])), (ra, .inl (cB, 16400, .inl u_25))] := hD
      have hL_27 := hw
      refine lv_goto (tgt := 151) hx hb d_Mo_utf_46 (by decide) ?_
      have hP9 := hP.sub (ws' := [(mo, .inr (8, [.int th, .int fd, .ref rt, .int mn, .ref rk, .ref rv, .ref rw, .ref ro, .int md, .ref rr, .int (nI ((P ++ [by_b (192 ||| ((nI c0) >>> ((6 : Int32) &&& 31)))]) ++ [by_b (128 ||| ((nI c0) &&& 63))]).length), .ref ra, .long pz, .int kc, .ref rc, .ref rl, .ref rb, .int la, .int ca])), (ra, .inl (cB, 16400, .inl u_25))]) [0, 1] rfl
      have hD9 := hD.sub (ws' := [(mo, .inr (8, [.int th, .int fd, .ref rt, .int mn, .ref rk, .ref rv, .ref rw, .ref ro, .int md, .ref rr, .int (nI ((P ++ [by_b (192 ||| ((nI c0) >>> ((6 : Int32) &&& 31)))]) ++ [by_b (128 ||| ((nI c0) &&& 63))]).length), .ref ra, .long pz, .int kc, .ref rc, .ref rl, .ref rb, .int la, .int ca])), (ra, .inl (cB, 16400, .inl u_25))]) [0, 1] (by decide) rfl
      have hK9 := hK.sub (tys' := [(cB, .byte)]) [0] rfl
      rw [show ((P ++ [by_b (192 ||| ((nI c0) >>> ((6 : Int32) &&& 31)))]) ++ [by_b (128 ||| ((nI c0) &&& 63))]) = (P ++ (ut_8 c0)) from mu_2 f_4 f_19] at hP9 hD9
      exact zz_vret hx hb hr hlocks d_Mo_utf_151 hS (by first | exact Nat.le_refl _ | decide | omega | (dsimp only; omega)) (by first | exact Nat.le_refl _ | decide | omega | (dsimp only; omega)) u_25 (by rw [show ((P ++ [by_b (192 ||| ((nI c0) >>> ((6 : Int32) &&& 31)))]) ++ [by_b (128 ||| ((nI c0) &&& 63))]) = (P ++ (ut_8 c0)) from mu_2 f_4 f_19] at hL_27; exact hL_27) hP9 hK9 hD9
  · skip
    have f_4 : c0 < 128 := Nat.lt_of_not_le (fun z => c_4 (nI_le (a := 128) z (by omega)))
    refine lv_aload_n hx hb d_Mo_utf_7 rfl (lv_at hl 0 rfl) ?_
    refine lv_iload_n hx hb d_Mo_utf_8 rfl (lv_at hl 1 rfl) ?_
    have hPc := hP.sub (ws' := [(mo, .inr (8, [.int th, .int fd, .ref rt, .int mn, .ref rk, .ref rv, .ref rw, .ref ro, .int md, .ref rr, .int (nI P.length), .ref ra, .long pz, .int kc, .ref rc, .ref rl, .ref rb, .int la, .int ca])), (ra, .inl (cB, 16400, .inl fa))]) [0, 1] rfl
    have hKc := hK.sub (tys' := [(cB, .byte)]) [0] rfl
    have hDc := hD.sub (ws' := [(mo, .inr (8, [.int th, .int fd, .ref rt, .int mn, .ref rk, .ref rv, .ref rw, .ref ro, .int md, .ref rr, .int (nI P.length), .ref ra, .long pz, .int kc, .ref rc, .ref rl, .ref rb, .int la, .int ca])), (ra, .inl (cB, 16400, .inl fa))]) [0, 1] (by decide) rfl
    have hFc := va_free (wc := [(mo, .inr (8, [.int th, .int fd, .ref rt, .int mn, .ref rk, .ref rv, .ref rw, .ref ro, .int md, .ref rr, .int (nI P.length), .ref ra, .long pz, .int kc, .ref rc, .ref rl, .ref rb, .int la, .int ca])), (ra, .inl (cB, 16400, .inl fa))]) hD hS hA [0, 1] rfl
    refine zz_callv (va_runV (As := [.int (nI c0)]) (rest := []) ⟨hx, hb, hml, hown, hg⟩ (c_Mo_put l dC dI mo rt rk rv rw ro rr ra rc rl rb th fd mn md (nI P.length) pz kc la ca cB fa P (nI c0) hLa (by (try simp only [List.length_append, List.length_cons, List.length_nil]); omega) s.heap.size) (cwV 1 hg (gi_V kw_863 kw_865 sw_16 kw_9 kw_866) rfl rfl rfl (by decide +kernel) ⟨Nat.le_of_ble_eq_true rfl, Nat.le_of_ble_eq_true rfl⟩) (zz_preV hPc hKc hDc _ (q0 := 0) (ci := 8) rfl rfl) rfl rfl hl.1 rfl (lv_room (Nat.le_of_ble_eq_true rfl)) d_Mo_utf_9 ⟨Nat.le_of_ble_eq_true rfl, Nat.le_of_ble_eq_true rfl⟩) hS hFc (fun u H1 k9 p9 d9 => va_join (wr := []) hP hD [0, 1] [] rfl rfl (by decide) (by decide) k9 hFc p9 d9) (fun u H locs hw hP hD hK1 hS => ?_)
    obtain ⟨u_28, rfl⟩ : ∃ z, z = u := ⟨_, rfl⟩
    try dsimp only at hw
    have hP : va_P (dC, dI) vwCl [(mo, .inr (8, [.int th, .int fd, .ref rt, .int mn, .ref rk, .ref rv, .ref rw, .ref ro, .int md, .ref rr, .int (nI (P ++ [by_b (nI c0)]).length), .ref ra, .long pz, .int kc, .ref rc, .ref rl, .ref rb, .int la, .int ca])), (ra, .inl (cB, 16400, .inl u_28))] H := hP
    have hD : va_D A [(mo, .inr (8, [.int th, .int fd, .ref rt, .int mn, .ref rk, .ref rv, .ref rw, .ref ro, .int md, .ref rr, .int (nI (P ++ [by_b (nI c0)]).length), .ref ra, .long pz, .int kc, .ref rc, .ref rl, .ref rb, .int la, .int ca])), (ra, .inl (cB, 16400, .inl u_28))] := hD
    have hL_30 := hw
    refine lv_goto (tgt := 151) hx hb d_Mo_utf_12 (by decide) ?_
    have hP9 := hP.sub (ws' := [(mo, .inr (8, [.int th, .int fd, .ref rt, .int mn, .ref rk, .ref rv, .ref rw, .ref ro, .int md, .ref rr, .int (nI (P ++ [by_b (nI c0)]).length), .ref ra, .long pz, .int kc, .ref rc, .ref rl, .ref rb, .int la, .int ca])), (ra, .inl (cB, 16400, .inl u_28))]) [0, 1] rfl
    have hD9 := hD.sub (ws' := [(mo, .inr (8, [.int th, .int fd, .ref rt, .int mn, .ref rk, .ref rv, .ref rw, .ref ro, .int md, .ref rr, .int (nI (P ++ [by_b (nI c0)]).length), .ref ra, .long pz, .int kc, .ref rc, .ref rl, .ref rb, .int la, .int ca])), (ra, .inl (cB, 16400, .inl u_28))]) [0, 1] (by decide) rfl
    have hK9 := hK.sub (tys' := [(cB, .byte)]) [0] rfl
    rw [show (P ++ [by_b (nI c0)]) = (P ++ (ut_8 c0)) from mu_1 f_4] at hP9 hD9
    exact zz_vret hx hb hr hlocks d_Mo_utf_151 hS (by first | exact Nat.le_refl _ | decide | omega | (dsimp only; omega)) (by first | exact Nat.le_refl _ | decide | omega | (dsimp only; omega)) u_28 (by rw [show (P ++ [by_b (nI c0)]) = (P ++ (ut_8 c0)) from mu_1 f_4] at hL_30; exact hL_30) hP9 hK9 hD9
abbrev y_Mo_hex : MethodName := ⟨"TextForgeModel", "hex", "(I)V"⟩
abbrev w_Mo_hex : List Cond := Cond.code y_Mo_hex prog_12_method_20_code 2 none :: gw
theorem d_Mo_hex_0 : decode prog_12_method_20_code 0 = .ok (.aload_n 0, 1) := by decide +kernel
theorem d_Mo_hex_1 : decode prog_12_method_20_code 1 = .ok (.iload_n 1, 1) := by decide +kernel
theorem d_Mo_hex_2 : decode prog_12_method_20_code 2 = .ok (.iconst 4, 1) := by decide +kernel
theorem d_Mo_hex_3 : decode prog_12_method_20_code 3 = .ok (.ishr, 1) := by decide +kernel
theorem d_Mo_hex_4 : decode prog_12_method_20_code 4 = .ok (.bipush 10, 2) := by decide +kernel
theorem d_Mo_hex_6 : decode prog_12_method_20_code 6 = .ok (.if_icmp .ge 12, 3) := by decide +kernel
theorem d_Mo_hex_9 : decode prog_12_method_20_code 9 = .ok (.bipush 48, 2) := by decide +kernel
theorem d_Mo_hex_11 : decode prog_12_method_20_code 11 = .ok (.iload_n 1, 1) := by decide +kernel
theorem d_Mo_hex_12 : decode prog_12_method_20_code 12 = .ok (.iconst 4, 1) := by decide +kernel
theorem d_Mo_hex_13 : decode prog_12_method_20_code 13 = .ok (.ishr, 1) := by decide +kernel
theorem d_Mo_hex_14 : decode prog_12_method_20_code 14 = .ok (.iadd, 1) := by decide +kernel
theorem d_Mo_hex_15 : decode prog_12_method_20_code 15 = .ok (.goto 12, 3) := by decide +kernel
theorem d_Mo_hex_18 : decode prog_12_method_20_code 18 = .ok (.bipush 97, 2) := by decide +kernel
theorem d_Mo_hex_20 : decode prog_12_method_20_code 20 = .ok (.iload_n 1, 1) := by decide +kernel
theorem d_Mo_hex_21 : decode prog_12_method_20_code 21 = .ok (.iconst 4, 1) := by decide +kernel
theorem d_Mo_hex_22 : decode prog_12_method_20_code 22 = .ok (.ishr, 1) := by decide +kernel
theorem d_Mo_hex_23 : decode prog_12_method_20_code 23 = .ok (.iadd, 1) := by decide +kernel
theorem d_Mo_hex_24 : decode prog_12_method_20_code 24 = .ok (.bipush 10, 2) := by decide +kernel
theorem d_Mo_hex_26 : decode prog_12_method_20_code 26 = .ok (.isub, 1) := by decide +kernel
theorem d_Mo_hex_27 : decode prog_12_method_20_code 27 = .ok (.invokevirtual 74, 3) := by decide +kernel
theorem d_Mo_hex_30 : decode prog_12_method_20_code 30 = .ok (.aload_n 0, 1) := by decide +kernel
theorem d_Mo_hex_31 : decode prog_12_method_20_code 31 = .ok (.iload_n 1, 1) := by decide +kernel
theorem d_Mo_hex_32 : decode prog_12_method_20_code 32 = .ok (.bipush 15, 2) := by decide +kernel
theorem d_Mo_hex_34 : decode prog_12_method_20_code 34 = .ok (.iand, 1) := by decide +kernel
theorem d_Mo_hex_35 : decode prog_12_method_20_code 35 = .ok (.bipush 10, 2) := by decide +kernel
theorem d_Mo_hex_37 : decode prog_12_method_20_code 37 = .ok (.if_icmp .ge 13, 3) := by decide +kernel
theorem d_Mo_hex_40 : decode prog_12_method_20_code 40 = .ok (.bipush 48, 2) := by decide +kernel
theorem d_Mo_hex_42 : decode prog_12_method_20_code 42 = .ok (.iload_n 1, 1) := by decide +kernel
theorem d_Mo_hex_43 : decode prog_12_method_20_code 43 = .ok (.bipush 15, 2) := by decide +kernel
theorem d_Mo_hex_45 : decode prog_12_method_20_code 45 = .ok (.iand, 1) := by decide +kernel
theorem d_Mo_hex_46 : decode prog_12_method_20_code 46 = .ok (.iadd, 1) := by decide +kernel
theorem d_Mo_hex_47 : decode prog_12_method_20_code 47 = .ok (.goto 13, 3) := by decide +kernel
theorem d_Mo_hex_50 : decode prog_12_method_20_code 50 = .ok (.bipush 97, 2) := by decide +kernel
theorem d_Mo_hex_52 : decode prog_12_method_20_code 52 = .ok (.iload_n 1, 1) := by decide +kernel
theorem d_Mo_hex_53 : decode prog_12_method_20_code 53 = .ok (.bipush 15, 2) := by decide +kernel
theorem d_Mo_hex_55 : decode prog_12_method_20_code 55 = .ok (.iand, 1) := by decide +kernel
theorem d_Mo_hex_56 : decode prog_12_method_20_code 56 = .ok (.iadd, 1) := by decide +kernel
theorem d_Mo_hex_57 : decode prog_12_method_20_code 57 = .ok (.bipush 10, 2) := by decide +kernel
theorem d_Mo_hex_59 : decode prog_12_method_20_code 59 = .ok (.isub, 1) := by decide +kernel
theorem d_Mo_hex_60 : decode prog_12_method_20_code 60 = .ok (.invokevirtual 74, 3) := by decide +kernel
theorem d_Mo_hex_63 : decode prog_12_method_20_code 63 = .ok (.return_, 1) := by decide +kernel
set_option maxHeartbeats 4000000 in
set_option maxRecDepth 100000 in
theorem c_Mo_hex (l : Launch) (dC : Nat → ClassId) (dI : Nat → Nat → Nat) (mo rt rk rv rw ro rr ra rc rl rb : Nat) (th fd mn md pt : Int32) (pz : Int64) (kc la ca : Int32) (cB : ClassId) (fa : Nat → Int32) (P : List Nat) (v : Nat) (hLa : by_L P fa) (hpa : P.length + 2 ≤ 16400) (hv : v < 256) : zM_v (S := Nat → Int32) l y_Mo_hex w_Mo_hex { frames := 1, cells := 0, slots := 0, locals := 21 } (dC, dI) vwCl [.ref mo, .int (nI v)] [(mo, .inr (8, [.int th, .int fd, .ref rt, .int mn, .ref rk, .ref rv, .ref rw, .ref ro, .int md, .ref rr, .int (nI P.length), .ref ra, .long pz, .int kc, .ref rc, .ref rl, .ref rb, .int la, .int ca])), (ra, .inl (cB, 16400, .inl fa))] [(cB, .byte)] (fun (u : Nat → Int32) => by_L (P ++ [nu_d 97 (v / 16), nu_d 97 (v % 16)]) u) (fun u => [(mo, .inr (8, [.int th, .int fd, .ref rt, .int mn, .ref rk, .ref rv, .ref rw, .ref ro, .int md, .ref rr, .int (nI (P ++ [nu_d 97 (v / 16), nu_d 97 (v % 16)]).length), .ref ra, .long pz, .int kc, .ref rc, .ref rl, .ref rb, .int la, .int ca])), (ra, .inl (cB, 16400, .inl u))]) (fun u => [(cB, .byte)]) 0 0 := by
  refine zz_enterv (cc := prog_12_method_20_code) (nL := 2) (ret := none) (by decide) rfl (Nat.le_of_ble_eq_true rfl) ?_
  intro p e s m below meth c A ls C0 hA hS hP hK hD hl
  obtain ⟨hx, hb, hml, hown, hg, hr, hlocks, hin⟩ := C0
  have hown : s.vm.findClass "TextForgeModel" = some m.cls := hown
  have hP : va_P (dC, dI) vwCl [(mo, .inr (8, [.int th, .int fd, .ref rt, .int mn, .ref rk, .ref rv, .ref rw, .ref ro, .int md, .ref rr, .int (nI P.length), .ref ra, .long pz, .int kc, .ref rc, .ref rl, .ref rb, .int la, .int ca])), (ra, .inl (cB, 16400, .inl fa))] s.heap := hP
  have hK : va_K (dC, dI) vwCl [(cB, .byte)] s := hK
  have hD : va_D A [(mo, .inr (8, [.int th, .int fd, .ref rt, .int mn, .ref rk, .ref rv, .ref rw, .ref ro, .int md, .ref rr, .int (nI P.length), .ref ra, .long pz, .int kc, .ref rc, .ref rl, .ref rb, .int la, .int ca])), (ra, .inl (cB, 16400, .inl fa))] := hD
  have hl : lv_has ls 2 [(0, .ref mo), (1, .int (nI v))] := hl
  refine lv_aload_n hx hb d_Mo_hex_0 rfl (lv_at hl 0 rfl) ?_
  refine lv_iload_n hx hb d_Mo_hex_1 rfl (lv_at hl 1 rfl) ?_
  refine lv_iconst (v := 4) hx hb d_Mo_hex_2 (by decide) ?_
  refine lv_ishr hx hb d_Mo_hex_3 ?_
  rw [px_n1 hv]
  refine lv_bipush (v := 10) hx hb d_Mo_hex_4 (by decide) ?_
  refine lv_icmp_ge (tgt := 18) hx hb d_Mo_hex_6 (by decide) (fun c_6 => ?_) (fun c_6 => ?_)
  · skip
    have f_6 : 10 ≤ (v / 16) := Nat.le_of_not_lt (fun z => nI_ge (b := 10) z (by omega) c_6)
    refine lv_bipush (v := 97) hx hb d_Mo_hex_18 (by decide) ?_
    refine lv_iload_n hx hb d_Mo_hex_20 rfl (lv_at hl 1 rfl) ?_
    refine lv_iconst (v := 4) hx hb d_Mo_hex_21 (by decide) ?_
    refine lv_ishr hx hb d_Mo_hex_22 ?_
    rw [px_n1 hv]
    refine lv_iadd hx hb d_Mo_hex_23 ?_
    refine lv_bipush (v := 10) hx hb d_Mo_hex_24 (by decide) ?_
    refine lv_isub hx hb d_Mo_hex_26 ?_
    rw [hx_v2 f_6]
    have hPc := hP.sub (ws' := [(mo, .inr (8, [.int th, .int fd, .ref rt, .int mn, .ref rk, .ref rv, .ref rw, .ref ro, .int md, .ref rr, .int (nI P.length), .ref ra, .long pz, .int kc, .ref rc, .ref rl, .ref rb, .int la, .int ca])), (ra, .inl (cB, 16400, .inl fa))]) [0, 1] rfl
    have hKc := hK.sub (tys' := [(cB, .byte)]) [0] rfl
    have hDc := hD.sub (ws' := [(mo, .inr (8, [.int th, .int fd, .ref rt, .int mn, .ref rk, .ref rv, .ref rw, .ref ro, .int md, .ref rr, .int (nI P.length), .ref ra, .long pz, .int kc, .ref rc, .ref rl, .ref rb, .int la, .int ca])), (ra, .inl (cB, 16400, .inl fa))]) [0, 1] (by decide) rfl
    have hFc := va_free (wc := [(mo, .inr (8, [.int th, .int fd, .ref rt, .int mn, .ref rk, .ref rv, .ref rw, .ref ro, .int md, .ref rr, .int (nI P.length), .ref ra, .long pz, .int kc, .ref rc, .ref rl, .ref rb, .int la, .int ca])), (ra, .inl (cB, 16400, .inl fa))]) hD hS hA [0, 1] rfl
    refine zz_callv (va_runV (As := [.int (nI (nu_d 97 (v / 16)))]) (rest := []) ⟨hx, hb, hml, hown, hg⟩ (c_Mo_put l dC dI mo rt rk rv rw ro rr ra rc rl rb th fd mn md (nI P.length) pz kc la ca cB fa P (nI (nu_d 97 (v / 16))) hLa (by (try simp only [List.length_append, List.length_cons, List.length_nil]); omega) s.heap.size) (cwV 1 hg (gi_V kw_863 kw_865 sw_16 kw_9 kw_866) rfl rfl rfl (by decide +kernel) ⟨Nat.le_of_ble_eq_true rfl, Nat.le_of_ble_eq_true rfl⟩) (zz_preV hPc hKc hDc _ (q0 := 0) (ci := 8) rfl rfl) rfl rfl hl.1 rfl (lv_room (Nat.le_of_ble_eq_true rfl)) d_Mo_hex_27 ⟨Nat.le_of_ble_eq_true rfl, Nat.le_of_ble_eq_true rfl⟩) hS hFc (fun u H1 k9 p9 d9 => va_join (wr := []) hP hD [0, 1] [] rfl rfl (by decide) (by decide) k9 hFc p9 d9) (fun u H locs hw hP hD hK1 hS => ?_)
    obtain ⟨u_1, rfl⟩ : ∃ z, z = u := ⟨_, rfl⟩
    try dsimp only at hw
    have hP : va_P (dC, dI) vwCl [(mo, .inr (8, [.int th, .int fd, .ref rt, .int mn, .ref rk, .ref rv, .ref rw, .ref ro, .int md, .ref rr, .int (nI (P ++ [by_b (nI (nu_d 97 (v / 16)))]).length), .ref ra, .long pz, .int kc, .ref rc, .ref rl, .ref rb, .int la, .int ca])), (ra, .inl (cB, 16400, .inl u_1))] H := hP
    have hD : va_D A [(mo, .inr (8, [.int th, .int fd, .ref rt, .int mn, .ref rk, .ref rv, .ref rw, .ref ro, .int md, .ref rr, .int (nI (P ++ [by_b (nI (nu_d 97 (v / 16)))]).length), .ref ra, .long pz, .int kc, .ref rc, .ref rl, .ref rb, .int la, .int ca])), (ra, .inl (cB, 16400, .inl u_1))] := hD
    have hL_3 := hw
    refine lv_aload_n hx hb d_Mo_hex_30 rfl (lv_at hl 0 rfl) ?_
    refine lv_iload_n hx hb d_Mo_hex_31 rfl (lv_at hl 1 rfl) ?_
    refine lv_bipush (v := 15) hx hb d_Mo_hex_32 (by decide) ?_
    refine lv_iand hx hb d_Mo_hex_34 ?_
    rw [qu_h2 hv]
    refine lv_bipush (v := 10) hx hb d_Mo_hex_35 (by decide) ?_
    refine lv_icmp_ge (tgt := 50) hx hb d_Mo_hex_37 (by decide) (fun c_37 => ?_) (fun c_37 => ?_)
    · skip
      have f_37 : 10 ≤ (v % 16) := Nat.le_of_not_lt (fun z => nI_ge (b := 10) z (by omega) c_37)
      refine lv_bipush (v := 97) hx hb d_Mo_hex_50 (by decide) ?_
      refine lv_iload_n hx hb d_Mo_hex_52 rfl (lv_at hl 1 rfl) ?_
      refine lv_bipush (v := 15) hx hb d_Mo_hex_53 (by decide) ?_
      refine lv_iand hx hb d_Mo_hex_55 ?_
      rw [qu_h2 hv]
      refine lv_iadd hx hb d_Mo_hex_56 ?_
      refine lv_bipush (v := 10) hx hb d_Mo_hex_57 (by decide) ?_
      refine lv_isub hx hb d_Mo_hex_59 ?_
      rw [hx_v2 f_37]
      have hPc := hP.sub (ws' := [(mo, .inr (8, [.int th, .int fd, .ref rt, .int mn, .ref rk, .ref rv, .ref rw, .ref ro, .int md, .ref rr, .int (nI (P ++ [by_b (nI (nu_d 97 (v / 16)))]).length), .ref ra, .long pz, .int kc, .ref rc, .ref rl, .ref rb, .int la, .int ca])), (ra, .inl (cB, 16400, .inl u_1))]) [0, 1] rfl
      have hKc := hK.sub (tys' := [(cB, .byte)]) [0] rfl
      have hDc := hD.sub (ws' := [(mo, .inr (8, [.int th, .int fd, .ref rt, .int mn, .ref rk, .ref rv, .ref rw, .ref ro, .int md, .ref rr, .int (nI (P ++ [by_b (nI (nu_d 97 (v / 16)))]).length), .ref ra, .long pz, .int kc, .ref rc, .ref rl, .ref rb, .int la, .int ca])), (ra, .inl (cB, 16400, .inl u_1))]) [0, 1] (by decide) rfl
      have hFc := va_free (wc := [(mo, .inr (8, [.int th, .int fd, .ref rt, .int mn, .ref rk, .ref rv, .ref rw, .ref ro, .int md, .ref rr, .int (nI (P ++ [by_b (nI (nu_d 97 (v / 16)))]).length), .ref ra, .long pz, .int kc, .ref rc, .ref rl, .ref rb, .int la, .int ca])), (ra, .inl (cB, 16400, .inl u_1))]) hD hS hA [0, 1] rfl
      refine zz_callv (va_runV (As := [.int (nI (nu_d 97 (v % 16)))]) (rest := []) ⟨hx, hb, hml, hown, hg⟩ (c_Mo_put l dC dI mo rt rk rv rw ro rr ra rc rl rb th fd mn md (nI (P ++ [by_b (nI (nu_d 97 (v / 16)))]).length) pz kc la ca cB u_1 (P ++ [by_b (nI (nu_d 97 (v / 16)))]) (nI (nu_d 97 (v % 16))) hL_3 (by (try simp only [List.length_append, List.length_cons, List.length_nil]); omega) H.size) (cwV 1 hg (gi_V kw_863 kw_865 sw_16 kw_9 kw_866) rfl rfl rfl (by decide +kernel) ⟨Nat.le_of_ble_eq_true rfl, Nat.le_of_ble_eq_true rfl⟩) (zz_preV hPc hKc hDc _ (q0 := 0) (ci := 8) rfl rfl) rfl rfl hl.1 rfl (lv_room (Nat.le_of_ble_eq_true rfl)) d_Mo_hex_60 ⟨Nat.le_of_ble_eq_true rfl, Nat.le_of_ble_eq_true rfl⟩) hS hFc (fun u H1 k9 p9 d9 => va_join (wr := []) hP hD [0, 1] [] rfl rfl (by decide) (by decide) k9 hFc p9 d9) (fun u H locs hw hP hD hK1 hS => ?_)
      obtain ⟨u_4, rfl⟩ : ∃ z, z = u := ⟨_, rfl⟩
      try dsimp only at hw
      have hP : va_P (dC, dI) vwCl [(mo, .inr (8, [.int th, .int fd, .ref rt, .int mn, .ref rk, .ref rv, .ref rw, .ref ro, .int md, .ref rr, .int (nI ((P ++ [by_b (nI (nu_d 97 (v / 16)))]) ++ [by_b (nI (nu_d 97 (v % 16)))]).length), .ref ra, .long pz, .int kc, .ref rc, .ref rl, .ref rb, .int la, .int ca])), (ra, .inl (cB, 16400, .inl u_4))] H := hP
      have hD : va_D A [(mo, .inr (8, [.int th, .int fd, .ref rt, .int mn, .ref rk, .ref rv, .ref rw, .ref ro, .int md, .ref rr, .int (nI ((P ++ [by_b (nI (nu_d 97 (v / 16)))]) ++ [by_b (nI (nu_d 97 (v % 16)))]).length), .ref ra, .long pz, .int kc, .ref rc, .ref rl, .ref rb, .int la, .int ca])), (ra, .inl (cB, 16400, .inl u_4))] := hD
      have hL_6 := hw
      have hP9 := hP.sub (ws' := [(mo, .inr (8, [.int th, .int fd, .ref rt, .int mn, .ref rk, .ref rv, .ref rw, .ref ro, .int md, .ref rr, .int (nI ((P ++ [by_b (nI (nu_d 97 (v / 16)))]) ++ [by_b (nI (nu_d 97 (v % 16)))]).length), .ref ra, .long pz, .int kc, .ref rc, .ref rl, .ref rb, .int la, .int ca])), (ra, .inl (cB, 16400, .inl u_4))]) [0, 1] rfl
      have hD9 := hD.sub (ws' := [(mo, .inr (8, [.int th, .int fd, .ref rt, .int mn, .ref rk, .ref rv, .ref rw, .ref ro, .int md, .ref rr, .int (nI ((P ++ [by_b (nI (nu_d 97 (v / 16)))]) ++ [by_b (nI (nu_d 97 (v % 16)))]).length), .ref ra, .long pz, .int kc, .ref rc, .ref rl, .ref rb, .int la, .int ca])), (ra, .inl (cB, 16400, .inl u_4))]) [0, 1] (by decide) rfl
      have hK9 := hK.sub (tys' := [(cB, .byte)]) [0] rfl
      rw [show ((P ++ [by_b (nI (nu_d 97 (v / 16)))]) ++ [by_b (nI (nu_d 97 (v % 16)))]) = (P ++ [nu_d 97 (v / 16), nu_d 97 (v % 16)]) from hx_e hv] at hP9 hD9
      exact zz_vret hx hb hr hlocks d_Mo_hex_63 hS (by first | exact Nat.le_refl _ | decide | omega | (dsimp only; omega)) (by first | exact Nat.le_refl _ | decide | omega | (dsimp only; omega)) u_4 (by rw [show ((P ++ [by_b (nI (nu_d 97 (v / 16)))]) ++ [by_b (nI (nu_d 97 (v % 16)))]) = (P ++ [nu_d 97 (v / 16), nu_d 97 (v % 16)]) from hx_e hv] at hL_6; exact hL_6) hP9 hK9 hD9
    · skip
      have f_37 : (v % 16) < 10 := Nat.lt_of_not_le (fun z => c_37 (nI_le (a := 10) z (by omega)))
      refine lv_bipush (v := 48) hx hb d_Mo_hex_40 (by decide) ?_
      refine lv_iload_n hx hb d_Mo_hex_42 rfl (lv_at hl 1 rfl) ?_
      refine lv_bipush (v := 15) hx hb d_Mo_hex_43 (by decide) ?_
      refine lv_iand hx hb d_Mo_hex_45 ?_
      rw [qu_h2 hv]
      refine lv_iadd hx hb d_Mo_hex_46 ?_
      rw [hx_v1 f_37]
      refine lv_goto (tgt := 60) hx hb d_Mo_hex_47 (by decide) ?_
      have hPc := hP.sub (ws' := [(mo, .inr (8, [.int th, .int fd, .ref rt, .int mn, .ref rk, .ref rv, .ref rw, .ref ro, .int md, .ref rr, .int (nI (P ++ [by_b (nI (nu_d 97 (v / 16)))]).length), .ref ra, .long pz, .int kc, .ref rc, .ref rl, .ref rb, .int la, .int ca])), (ra, .inl (cB, 16400, .inl u_1))]) [0, 1] rfl
      have hKc := hK.sub (tys' := [(cB, .byte)]) [0] rfl
      have hDc := hD.sub (ws' := [(mo, .inr (8, [.int th, .int fd, .ref rt, .int mn, .ref rk, .ref rv, .ref rw, .ref ro, .int md, .ref rr, .int (nI (P ++ [by_b (nI (nu_d 97 (v / 16)))]).length), .ref ra, .long pz, .int kc, .ref rc, .ref rl, .ref rb, .int la, .int ca])), (ra, .inl (cB, 16400, .inl u_1))]) [0, 1] (by decide) rfl
      have hFc := va_free (wc := [(mo, .inr (8, [.int th, .int fd, .ref rt, .int mn, .ref rk, .ref rv, .ref rw, .ref ro, .int md, .ref rr, .int (nI (P ++ [by_b (nI (nu_d 97 (v / 16)))]).length), .ref ra, .long pz, .int kc, .ref rc, .ref rl, .ref rb, .int la, .int ca])), (ra, .inl (cB, 16400, .inl u_1))]) hD hS hA [0, 1] rfl
      refine zz_callv (va_runV (As := [.int (nI (nu_d 97 (v % 16)))]) (rest := []) ⟨hx, hb, hml, hown, hg⟩ (c_Mo_put l dC dI mo rt rk rv rw ro rr ra rc rl rb th fd mn md (nI (P ++ [by_b (nI (nu_d 97 (v / 16)))]).length) pz kc la ca cB u_1 (P ++ [by_b (nI (nu_d 97 (v / 16)))]) (nI (nu_d 97 (v % 16))) hL_3 (by (try simp only [List.length_append, List.length_cons, List.length_nil]); omega) H.size) (cwV 1 hg (gi_V kw_863 kw_865 sw_16 kw_9 kw_866) rfl rfl rfl (by decide +kernel) ⟨Nat.le_of_ble_eq_true rfl, Nat.le_of_ble_eq_true rfl⟩) (zz_preV hPc hKc hDc _ (q0 := 0) (ci := 8) rfl rfl) rfl rfl hl.1 rfl (lv_room (Nat.le_of_ble_eq_true rfl)) d_Mo_hex_60 ⟨Nat.le_of_ble_eq_true rfl, Nat.le_of_ble_eq_true rfl⟩) hS hFc (fun u H1 k9 p9 d9 => va_join (wr := []) hP hD [0, 1] [] rfl rfl (by decide) (by decide) k9 hFc p9 d9) (fun u H locs hw hP hD hK1 hS => ?_)
      obtain ⟨u_7, rfl⟩ : ∃ z, z = u := ⟨_, rfl⟩
      try dsimp only at hw
      have hP : va_P (dC, dI) vwCl [(mo, .inr (8, [.int th, .int fd, .ref rt, .int mn, .ref rk, .ref rv, .ref rw, .ref ro, .int md, .ref rr, .int (nI ((P ++ [by_b (nI (nu_d 97 (v / 16)))]) ++ [by_b (nI (nu_d 97 (v % 16)))]).length), .ref ra, .long pz, .int kc, .ref rc, .ref rl, .ref rb, .int la, .int ca])), (ra, .inl (cB, 16400, .inl u_7))] H := hP
      have hD : va_D A [(mo, .inr (8, [.int th, .int fd, .ref rt, .int mn, .ref rk, .ref rv, .ref rw, .ref ro, .int md, .ref rr, .int (nI ((P ++ [by_b (nI (nu_d 97 (v / 16)))]) ++ [by_b (nI (nu_d 97 (v % 16)))]).length), .ref ra, .long pz, .int kc, .ref rc, .ref rl, .ref rb, .int la, .int ca])), (ra, .inl (cB, 16400, .inl u_7))] := hD
      have hL_9 := hw
      have hP9 := hP.sub (ws' := [(mo, .inr (8, [.int th, .int fd, .ref rt, .int mn, .ref rk, .ref rv, .ref rw, .ref ro, .int md, .ref rr, .int (nI ((P ++ [by_b (nI (nu_d 97 (v / 16)))]) ++ [by_b (nI (nu_d 97 (v % 16)))]).length), .ref ra, .long pz, .int kc, .ref rc, .ref rl, .ref rb, .int la, .int ca])), (ra, .inl (cB, 16400, .inl u_7))]) [0, 1] rfl
      have hD9 := hD.sub (ws' := [(mo, .inr (8, [.int th, .int fd, .ref rt, .int mn, .ref rk, .ref rv, .ref rw, .ref ro, .int md, .ref rr, .int (nI ((P ++ [by_b (nI (nu_d 97 (v / 16)))]) ++ [by_b (nI (nu_d 97 (v % 16)))]).length), .ref ra, .long pz, .int kc, .ref rc, .ref rl, .ref rb, .int la, .int ca])), (ra, .inl (cB, 16400, .inl u_7))]) [0, 1] (by decide) rfl
      have hK9 := hK.sub (tys' := [(cB, .byte)]) [0] rfl
      rw [show ((P ++ [by_b (nI (nu_d 97 (v / 16)))]) ++ [by_b (nI (nu_d 97 (v % 16)))]) = (P ++ [nu_d 97 (v / 16), nu_d 97 (v % 16)]) from hx_e hv] at hP9 hD9
      exact zz_vret hx hb hr hlocks d_Mo_hex_63 hS (by first | exact Nat.le_refl _ | decide | omega | (dsimp only; omega)) (by first | exact Nat.le_refl _ | decide | omega | (dsimp only; omega)) u_7 (by rw [show ((P ++ [by_b (nI (nu_d 97 (v / 16)))]) ++ [by_b (nI (nu_d 97 (v % 16)))]) = (P ++ [nu_d 97 (v / 16), nu_d 97 (v % 16)]) from hx_e hv] at hL_9; exact hL_9) hP9 hK9 hD9
  · skip
    have f_6 : (v / 16) < 10 := Nat.lt_of_not_le (fun z => c_6 (nI_le (a := 10) z (by omega)))
    refine lv_bipush (v := 48) hx hb d_Mo_hex_9 (by decide) ?_
    refine lv_iload_n hx hb d_Mo_hex_11 rfl (lv_at hl 1 rfl) ?_
    refine lv_iconst (v := 4) hx hb d_Mo_hex_12 (by decide) ?_
    refine lv_ishr hx hb d_Mo_hex_13 ?_
    rw [px_n1 hv]
    refine lv_iadd hx hb d_Mo_hex_14 ?_
    rw [hx_v1 f_6]
    refine lv_goto (tgt := 27) hx hb d_Mo_hex_15 (by decide) ?_
    have hPc := hP.sub (ws' := [(mo, .inr (8, [.int th, .int fd, .ref rt, .int mn, .ref rk, .ref rv, .ref rw, .ref ro, .int md, .ref rr, .int (nI P.length), .ref ra, .long pz, .int kc, .ref rc, .ref rl, .ref rb, .int la, .int ca])), (ra, .inl (cB, 16400, .inl fa))]) [0, 1] rfl
    have hKc := hK.sub (tys' := [(cB, .byte)]) [0] rfl
    have hDc := hD.sub (ws' := [(mo, .inr (8, [.int th, .int fd, .ref rt, .int mn, .ref rk, .ref rv, .ref rw, .ref ro, .int md, .ref rr, .int (nI P.length), .ref ra, .long pz, .int kc, .ref rc, .ref rl, .ref rb, .int la, .int ca])), (ra, .inl (cB, 16400, .inl fa))]) [0, 1] (by decide) rfl
    have hFc := va_free (wc := [(mo, .inr (8, [.int th, .int fd, .ref rt, .int mn, .ref rk, .ref rv, .ref rw, .ref ro, .int md, .ref rr, .int (nI P.length), .ref ra, .long pz, .int kc, .ref rc, .ref rl, .ref rb, .int la, .int ca])), (ra, .inl (cB, 16400, .inl fa))]) hD hS hA [0, 1] rfl
    refine zz_callv (va_runV (As := [.int (nI (nu_d 97 (v / 16)))]) (rest := []) ⟨hx, hb, hml, hown, hg⟩ (c_Mo_put l dC dI mo rt rk rv rw ro rr ra rc rl rb th fd mn md (nI P.length) pz kc la ca cB fa P (nI (nu_d 97 (v / 16))) hLa (by (try simp only [List.length_append, List.length_cons, List.length_nil]); omega) s.heap.size) (cwV 1 hg (gi_V kw_863 kw_865 sw_16 kw_9 kw_866) rfl rfl rfl (by decide +kernel) ⟨Nat.le_of_ble_eq_true rfl, Nat.le_of_ble_eq_true rfl⟩) (zz_preV hPc hKc hDc _ (q0 := 0) (ci := 8) rfl rfl) rfl rfl hl.1 rfl (lv_room (Nat.le_of_ble_eq_true rfl)) d_Mo_hex_27 ⟨Nat.le_of_ble_eq_true rfl, Nat.le_of_ble_eq_true rfl⟩) hS hFc (fun u H1 k9 p9 d9 => va_join (wr := []) hP hD [0, 1] [] rfl rfl (by decide) (by decide) k9 hFc p9 d9) (fun u H locs hw hP hD hK1 hS => ?_)
    obtain ⟨u_10, rfl⟩ : ∃ z, z = u := ⟨_, rfl⟩
    try dsimp only at hw
    have hP : va_P (dC, dI) vwCl [(mo, .inr (8, [.int th, .int fd, .ref rt, .int mn, .ref rk, .ref rv, .ref rw, .ref ro, .int md, .ref rr, .int (nI (P ++ [by_b (nI (nu_d 97 (v / 16)))]).length), .ref ra, .long pz, .int kc, .ref rc, .ref rl, .ref rb, .int la, .int ca])), (ra, .inl (cB, 16400, .inl u_10))] H := hP
    have hD : va_D A [(mo, .inr (8, [.int th, .int fd, .ref rt, .int mn, .ref rk, .ref rv, .ref rw, .ref ro, .int md, .ref rr, .int (nI (P ++ [by_b (nI (nu_d 97 (v / 16)))]).length), .ref ra, .long pz, .int kc, .ref rc, .ref rl, .ref rb, .int la, .int ca])), (ra, .inl (cB, 16400, .inl u_10))] := hD
    have hL_12 := hw
    refine lv_aload_n hx hb d_Mo_hex_30 rfl (lv_at hl 0 rfl) ?_
    refine lv_iload_n hx hb d_Mo_hex_31 rfl (lv_at hl 1 rfl) ?_
    refine lv_bipush (v := 15) hx hb d_Mo_hex_32 (by decide) ?_
    refine lv_iand hx hb d_Mo_hex_34 ?_
    rw [qu_h2 hv]
    refine lv_bipush (v := 10) hx hb d_Mo_hex_35 (by decide) ?_
    refine lv_icmp_ge (tgt := 50) hx hb d_Mo_hex_37 (by decide) (fun c_37 => ?_) (fun c_37 => ?_)
    · skip
      have f_37 : 10 ≤ (v % 16) := Nat.le_of_not_lt (fun z => nI_ge (b := 10) z (by omega) c_37)
      refine lv_bipush (v := 97) hx hb d_Mo_hex_50 (by decide) ?_
      refine lv_iload_n hx hb d_Mo_hex_52 rfl (lv_at hl 1 rfl) ?_
      refine lv_bipush (v := 15) hx hb d_Mo_hex_53 (by decide) ?_
      refine lv_iand hx hb d_Mo_hex_55 ?_
      rw [qu_h2 hv]
      refine lv_iadd hx hb d_Mo_hex_56 ?_
      refine lv_bipush (v := 10) hx hb d_Mo_hex_57 (by decide) ?_
      refine lv_isub hx hb d_Mo_hex_59 ?_
      rw [hx_v2 f_37]
      have hPc := hP.sub (ws' := [(mo, .inr (8, [.int th, .int fd, .ref rt, .int mn, .ref rk, .ref rv, .ref rw, .ref ro, .int md, .ref rr, .int (nI (P ++ [by_b (nI (nu_d 97 (v / 16)))]).length), .ref ra, .long pz, .int kc, .ref rc, .ref rl, .ref rb, .int la, .int ca])), (ra, .inl (cB, 16400, .inl u_10))]) [0, 1] rfl
      have hKc := hK.sub (tys' := [(cB, .byte)]) [0] rfl
      have hDc := hD.sub (ws' := [(mo, .inr (8, [.int th, .int fd, .ref rt, .int mn, .ref rk, .ref rv, .ref rw, .ref ro, .int md, .ref rr, .int (nI (P ++ [by_b (nI (nu_d 97 (v / 16)))]).length), .ref ra, .long pz, .int kc, .ref rc, .ref rl, .ref rb, .int la, .int ca])), (ra, .inl (cB, 16400, .inl u_10))]) [0, 1] (by decide) rfl
      have hFc := va_free (wc := [(mo, .inr (8, [.int th, .int fd, .ref rt, .int mn, .ref rk, .ref rv, .ref rw, .ref ro, .int md, .ref rr, .int (nI (P ++ [by_b (nI (nu_d 97 (v / 16)))]).length), .ref ra, .long pz, .int kc, .ref rc, .ref rl, .ref rb, .int la, .int ca])), (ra, .inl (cB, 16400, .inl u_10))]) hD hS hA [0, 1] rfl
      refine zz_callv (va_runV (As := [.int (nI (nu_d 97 (v % 16)))]) (rest := []) ⟨hx, hb, hml, hown, hg⟩ (c_Mo_put l dC dI mo rt rk rv rw ro rr ra rc rl rb th fd mn md (nI (P ++ [by_b (nI (nu_d 97 (v / 16)))]).length) pz kc la ca cB u_10 (P ++ [by_b (nI (nu_d 97 (v / 16)))]) (nI (nu_d 97 (v % 16))) hL_12 (by (try simp only [List.length_append, List.length_cons, List.length_nil]); omega) H.size) (cwV 1 hg (gi_V kw_863 kw_865 sw_16 kw_9 kw_866) rfl rfl rfl (by decide +kernel) ⟨Nat.le_of_ble_eq_true rfl, Nat.le_of_ble_eq_true rfl⟩) (zz_preV hPc hKc hDc _ (q0 := 0) (ci := 8) rfl rfl) rfl rfl hl.1 rfl (lv_room (Nat.le_of_ble_eq_true rfl)) d_Mo_hex_60 ⟨Nat.le_of_ble_eq_true rfl, Nat.le_of_ble_eq_true rfl⟩) hS hFc (fun u H1 k9 p9 d9 => va_join (wr := []) hP hD [0, 1] [] rfl rfl (by decide) (by decide) k9 hFc p9 d9) (fun u H locs hw hP hD hK1 hS => ?_)
      obtain ⟨u_13, rfl⟩ : ∃ z, z = u := ⟨_, rfl⟩
      try dsimp only at hw
      have hP : va_P (dC, dI) vwCl [(mo, .inr (8, [.int th, .int fd, .ref rt, .int mn, .ref rk, .ref rv, .ref rw, .ref ro, .int md, .ref rr, .int (nI ((P ++ [by_b (nI (nu_d 97 (v / 16)))]) ++ [by_b (nI (nu_d 97 (v % 16)))]).length), .ref ra, .long pz, .int kc, .ref rc, .ref rl, .ref rb, .int la, .int ca])), (ra, .inl (cB, 16400, .inl u_13))] H := hP
      have hD : va_D A [(mo, .inr (8, [.int th, .int fd, .ref rt, .int mn, .ref rk, .ref rv, .ref rw, .ref ro, .int md, .ref rr, .int (nI ((P ++ [by_b (nI (nu_d 97 (v / 16)))]) ++ [by_b (nI (nu_d 97 (v % 16)))]).length), .ref ra, .long pz, .int kc, .ref rc, .ref rl, .ref rb, .int la, .int ca])), (ra, .inl (cB, 16400, .inl u_13))] := hD
      have hL_15 := hw
      have hP9 := hP.sub (ws' := [(mo, .inr (8, [.int th, .int fd, .ref rt, .int mn, .ref rk, .ref rv, .ref rw, .ref ro, .int md, .ref rr, .int (nI ((P ++ [by_b (nI (nu_d 97 (v / 16)))]) ++ [by_b (nI (nu_d 97 (v % 16)))]).length), .ref ra, .long pz, .int kc, .ref rc, .ref rl, .ref rb, .int la, .int ca])), (ra, .inl (cB, 16400, .inl u_13))]) [0, 1] rfl
      have hD9 := hD.sub (ws' := [(mo, .inr (8, [.int th, .int fd, .ref rt, .int mn, .ref rk, .ref rv, .ref rw, .ref ro, .int md, .ref rr, .int (nI ((P ++ [by_b (nI (nu_d 97 (v / 16)))]) ++ [by_b (nI (nu_d 97 (v % 16)))]).length), .ref ra, .long pz, .int kc, .ref rc, .ref rl, .ref rb, .int la, .int ca])), (ra, .inl (cB, 16400, .inl u_13))]) [0, 1] (by decide) rfl
      have hK9 := hK.sub (tys' := [(cB, .byte)]) [0] rfl
      rw [show ((P ++ [by_b (nI (nu_d 97 (v / 16)))]) ++ [by_b (nI (nu_d 97 (v % 16)))]) = (P ++ [nu_d 97 (v / 16), nu_d 97 (v % 16)]) from hx_e hv] at hP9 hD9
      exact zz_vret hx hb hr hlocks d_Mo_hex_63 hS (by first | exact Nat.le_refl _ | decide | omega | (dsimp only; omega)) (by first | exact Nat.le_refl _ | decide | omega | (dsimp only; omega)) u_13 (by rw [show ((P ++ [by_b (nI (nu_d 97 (v / 16)))]) ++ [by_b (nI (nu_d 97 (v % 16)))]) = (P ++ [nu_d 97 (v / 16), nu_d 97 (v % 16)]) from hx_e hv] at hL_15; exact hL_15) hP9 hK9 hD9
    · skip
      have f_37 : (v % 16) < 10 := Nat.lt_of_not_le (fun z => c_37 (nI_le (a := 10) z (by omega)))
      refine lv_bipush (v := 48) hx hb d_Mo_hex_40 (by decide) ?_
      refine lv_iload_n hx hb d_Mo_hex_42 rfl (lv_at hl 1 rfl) ?_
      refine lv_bipush (v := 15) hx hb d_Mo_hex_43 (by decide) ?_
      refine lv_iand hx hb d_Mo_hex_45 ?_
      rw [qu_h2 hv]
      refine lv_iadd hx hb d_Mo_hex_46 ?_
      rw [hx_v1 f_37]
      refine lv_goto (tgt := 60) hx hb d_Mo_hex_47 (by decide) ?_
      have hPc := hP.sub (ws' := [(mo, .inr (8, [.int th, .int fd, .ref rt, .int mn, .ref rk, .ref rv, .ref rw, .ref ro, .int md, .ref rr, .int (nI (P ++ [by_b (nI (nu_d 97 (v / 16)))]).length), .ref ra, .long pz, .int kc, .ref rc, .ref rl, .ref rb, .int la, .int ca])), (ra, .inl (cB, 16400, .inl u_10))]) [0, 1] rfl
      have hKc := hK.sub (tys' := [(cB, .byte)]) [0] rfl
      have hDc := hD.sub (ws' := [(mo, .inr (8, [.int th, .int fd, .ref rt, .int mn, .ref rk, .ref rv, .ref rw, .ref ro, .int md, .ref rr, .int (nI (P ++ [by_b (nI (nu_d 97 (v / 16)))]).length), .ref ra, .long pz, .int kc, .ref rc, .ref rl, .ref rb, .int la, .int ca])), (ra, .inl (cB, 16400, .inl u_10))]) [0, 1] (by decide) rfl
      have hFc := va_free (wc := [(mo, .inr (8, [.int th, .int fd, .ref rt, .int mn, .ref rk, .ref rv, .ref rw, .ref ro, .int md, .ref rr, .int (nI (P ++ [by_b (nI (nu_d 97 (v / 16)))]).length), .ref ra, .long pz, .int kc, .ref rc, .ref rl, .ref rb, .int la, .int ca])), (ra, .inl (cB, 16400, .inl u_10))]) hD hS hA [0, 1] rfl
      refine zz_callv (va_runV (As := [.int (nI (nu_d 97 (v % 16)))]) (rest := []) ⟨hx, hb, hml, hown, hg⟩ (c_Mo_put l dC dI mo rt rk rv rw ro rr ra rc rl rb th fd mn md (nI (P ++ [by_b (nI (nu_d 97 (v / 16)))]).length) pz kc la ca cB u_10 (P ++ [by_b (nI (nu_d 97 (v / 16)))]) (nI (nu_d 97 (v % 16))) hL_12 (by (try simp only [List.length_append, List.length_cons, List.length_nil]); omega) H.size) (cwV 1 hg (gi_V kw_863 kw_865 sw_16 kw_9 kw_866) rfl rfl rfl (by decide +kernel) ⟨Nat.le_of_ble_eq_true rfl, Nat.le_of_ble_eq_true rfl⟩) (zz_preV hPc hKc hDc _ (q0 := 0) (ci := 8) rfl rfl) rfl rfl hl.1 rfl (lv_room (Nat.le_of_ble_eq_true rfl)) d_Mo_hex_60 ⟨Nat.le_of_ble_eq_true rfl, Nat.le_of_ble_eq_true rfl⟩) hS hFc (fun u H1 k9 p9 d9 => va_join (wr := []) hP hD [0, 1] [] rfl rfl (by decide) (by decide) k9 hFc p9 d9) (fun u H locs hw hP hD hK1 hS => ?_)
      obtain ⟨u_16, rfl⟩ : ∃ z, z = u := ⟨_, rfl⟩
      try dsimp only at hw
      have hP : va_P (dC, dI) vwCl [(mo, .inr (8, [.int th, .int fd, .ref rt, .int mn, .ref rk, .ref rv, .ref rw, .ref ro, .int md, .ref rr, .int (nI ((P ++ [by_b (nI (nu_d 97 (v / 16)))]) ++ [by_b (nI (nu_d 97 (v % 16)))]).length), .ref ra, .long pz, .int kc, .ref rc, .ref rl, .ref rb, .int la, .int ca])), (ra, .inl (cB, 16400, .inl u_16))] H := hP
      have hD : va_D A [(mo, .inr (8, [.int th, .int fd, .ref rt, .int mn, .ref rk, .ref rv, .ref rw, .ref ro, .int md, .ref rr, .int (nI ((P ++ [by_b (nI (nu_d 97 (v / 16)))]) ++ [by_b (nI (nu_d 97 (v % 16)))]).length), .ref ra, .long pz, .int kc, .ref rc, .ref rl, .ref rb, .int la, .int ca])), (ra, .inl (cB, 16400, .inl u_16))] := hD
      have hL_18 := hw
      have hP9 := hP.sub (ws' := [(mo, .inr (8, [.int th, .int fd, .ref rt, .int mn, .ref rk, .ref rv, .ref rw, .ref ro, .int md, .ref rr, .int (nI ((P ++ [by_b (nI (nu_d 97 (v / 16)))]) ++ [by_b (nI (nu_d 97 (v % 16)))]).length), .ref ra, .long pz, .int kc, .ref rc, .ref rl, .ref rb, .int la, .int ca])), (ra, .inl (cB, 16400, .inl u_16))]) [0, 1] rfl
      have hD9 := hD.sub (ws' := [(mo, .inr (8, [.int th, .int fd, .ref rt, .int mn, .ref rk, .ref rv, .ref rw, .ref ro, .int md, .ref rr, .int (nI ((P ++ [by_b (nI (nu_d 97 (v / 16)))]) ++ [by_b (nI (nu_d 97 (v % 16)))]).length), .ref ra, .long pz, .int kc, .ref rc, .ref rl, .ref rb, .int la, .int ca])), (ra, .inl (cB, 16400, .inl u_16))]) [0, 1] (by decide) rfl
      have hK9 := hK.sub (tys' := [(cB, .byte)]) [0] rfl
      rw [show ((P ++ [by_b (nI (nu_d 97 (v / 16)))]) ++ [by_b (nI (nu_d 97 (v % 16)))]) = (P ++ [nu_d 97 (v / 16), nu_d 97 (v % 16)]) from hx_e hv] at hP9 hD9
      exact zz_vret hx hb hr hlocks d_Mo_hex_63 hS (by first | exact Nat.le_refl _ | decide | omega | (dsimp only; omega)) (by first | exact Nat.le_refl _ | decide | omega | (dsimp only; omega)) u_16 (by rw [show ((P ++ [by_b (nI (nu_d 97 (v / 16)))]) ++ [by_b (nI (nu_d 97 (v % 16)))]) = (P ++ [nu_d 97 (v / 16), nu_d 97 (v % 16)]) from hx_e hv] at hL_18; exact hL_18) hP9 hK9 hD9
abbrev y_Mo_quoted : MethodName := ⟨"TextForgeModel", "quoted", "(II)V"⟩
abbrev w_Mo_quoted : List Cond := Cond.code y_Mo_quoted prog_12_method_21_code 3 none :: gw
theorem d_Mo_quoted_0 : decode prog_12_method_21_code 0 = .ok (.iload_n 1, 1) := by decide +kernel
theorem d_Mo_quoted_1 : decode prog_12_method_21_code 1 = .ok (.iload_n 2, 1) := by decide +kernel
theorem d_Mo_quoted_2 : decode prog_12_method_21_code 2 = .ok (.if_icmp .eq 9, 3) := by decide +kernel
theorem d_Mo_quoted_5 : decode prog_12_method_21_code 5 = .ok (.iload_n 1, 1) := by decide +kernel
theorem d_Mo_quoted_6 : decode prog_12_method_21_code 6 = .ok (.bipush 92, 2) := by decide +kernel
theorem d_Mo_quoted_8 : decode prog_12_method_21_code 8 = .ok (.if_icmp .ne 17, 3) := by decide +kernel
theorem d_Mo_quoted_11 : decode prog_12_method_21_code 11 = .ok (.aload_n 0, 1) := by decide +kernel
theorem d_Mo_quoted_12 : decode prog_12_method_21_code 12 = .ok (.bipush 92, 2) := by decide +kernel
theorem d_Mo_quoted_14 : decode prog_12_method_21_code 14 = .ok (.invokevirtual 74, 3) := by decide +kernel
theorem d_Mo_quoted_17 : decode prog_12_method_21_code 17 = .ok (.aload_n 0, 1) := by decide +kernel
theorem d_Mo_quoted_18 : decode prog_12_method_21_code 18 = .ok (.iload_n 1, 1) := by decide +kernel
theorem d_Mo_quoted_19 : decode prog_12_method_21_code 19 = .ok (.invokevirtual 74, 3) := by decide +kernel
theorem d_Mo_quoted_22 : decode prog_12_method_21_code 22 = .ok (.goto 74, 3) := by decide +kernel
theorem d_Mo_quoted_25 : decode prog_12_method_21_code 25 = .ok (.iload_n 1, 1) := by decide +kernel
theorem d_Mo_quoted_26 : decode prog_12_method_21_code 26 = .ok (.bipush 7, 2) := by decide +kernel
theorem d_Mo_quoted_28 : decode prog_12_method_21_code 28 = .ok (.if_icmp .lt 31, 3) := by decide +kernel
theorem d_Mo_quoted_31 : decode prog_12_method_21_code 31 = .ok (.iload_n 1, 1) := by decide +kernel
theorem d_Mo_quoted_32 : decode prog_12_method_21_code 32 = .ok (.bipush 13, 2) := by decide +kernel
theorem d_Mo_quoted_34 : decode prog_12_method_21_code 34 = .ok (.if_icmp .gt 25, 3) := by decide +kernel
theorem d_Mo_quoted_37 : decode prog_12_method_21_code 37 = .ok (.aload_n 0, 1) := by decide +kernel
theorem d_Mo_quoted_38 : decode prog_12_method_21_code 38 = .ok (.bipush 92, 2) := by decide +kernel
theorem d_Mo_quoted_40 : decode prog_12_method_21_code 40 = .ok (.invokevirtual 74, 3) := by decide +kernel
theorem d_Mo_quoted_43 : decode prog_12_method_21_code 43 = .ok (.aload_n 0, 1) := by decide +kernel
theorem d_Mo_quoted_44 : decode prog_12_method_21_code 44 = .ok (.ldc 99, 2) := by decide +kernel
theorem d_Mo_quoted_46 : decode prog_12_method_21_code 46 = .ok (.iload_n 1, 1) := by decide +kernel
theorem d_Mo_quoted_47 : decode prog_12_method_21_code 47 = .ok (.bipush 7, 2) := by decide +kernel
theorem d_Mo_quoted_49 : decode prog_12_method_21_code 49 = .ok (.isub, 1) := by decide +kernel
theorem d_Mo_quoted_50 : decode prog_12_method_21_code 50 = .ok (.invokevirtual 70, 3) := by decide +kernel
theorem d_Mo_quoted_53 : decode prog_12_method_21_code 53 = .ok (.invokevirtual 74, 3) := by decide +kernel
theorem d_Mo_quoted_56 : decode prog_12_method_21_code 56 = .ok (.goto 40, 3) := by decide +kernel
theorem d_Mo_quoted_59 : decode prog_12_method_21_code 59 = .ok (.iload_n 1, 1) := by decide +kernel
theorem d_Mo_quoted_60 : decode prog_12_method_21_code 60 = .ok (.bipush 32, 2) := by decide +kernel
theorem d_Mo_quoted_62 : decode prog_12_method_21_code 62 = .ok (.if_icmp .lt 9, 3) := by decide +kernel
theorem d_Mo_quoted_65 : decode prog_12_method_21_code 65 = .ok (.iload_n 1, 1) := by decide +kernel
theorem d_Mo_quoted_66 : decode prog_12_method_21_code 66 = .ok (.bipush 127, 2) := by decide +kernel
theorem d_Mo_quoted_68 : decode prog_12_method_21_code 68 = .ok (.if_icmp .ne 23, 3) := by decide +kernel
theorem d_Mo_quoted_71 : decode prog_12_method_21_code 71 = .ok (.aload_n 0, 1) := by decide +kernel
theorem d_Mo_quoted_72 : decode prog_12_method_21_code 72 = .ok (.bipush 92, 2) := by decide +kernel
theorem d_Mo_quoted_74 : decode prog_12_method_21_code 74 = .ok (.invokevirtual 74, 3) := by decide +kernel
theorem d_Mo_quoted_77 : decode prog_12_method_21_code 77 = .ok (.aload_n 0, 1) := by decide +kernel
theorem d_Mo_quoted_78 : decode prog_12_method_21_code 78 = .ok (.bipush 120, 2) := by decide +kernel
theorem d_Mo_quoted_80 : decode prog_12_method_21_code 80 = .ok (.invokevirtual 74, 3) := by decide +kernel
theorem d_Mo_quoted_83 : decode prog_12_method_21_code 83 = .ok (.aload_n 0, 1) := by decide +kernel
theorem d_Mo_quoted_84 : decode prog_12_method_21_code 84 = .ok (.iload_n 1, 1) := by decide +kernel
theorem d_Mo_quoted_85 : decode prog_12_method_21_code 85 = .ok (.invokevirtual 101, 3) := by decide +kernel
theorem d_Mo_quoted_88 : decode prog_12_method_21_code 88 = .ok (.goto 8, 3) := by decide +kernel
theorem d_Mo_quoted_91 : decode prog_12_method_21_code 91 = .ok (.aload_n 0, 1) := by decide +kernel
theorem d_Mo_quoted_92 : decode prog_12_method_21_code 92 = .ok (.iload_n 1, 1) := by decide +kernel
theorem d_Mo_quoted_93 : decode prog_12_method_21_code 93 = .ok (.invokevirtual 104, 3) := by decide +kernel
theorem d_Mo_quoted_96 : decode prog_12_method_21_code 96 = .ok (.return_, 1) := by decide +kernel
set_option maxHeartbeats 4000000 in
set_option maxRecDepth 100000 in
theorem c_Mo_quoted (l : Launch) (dC : Nat → ClassId) (dI : Nat → Nat → Nat) (ad : Nat → Nat) (mo rt rk rv rw ro rr ra rc rl rb : Nat) (th fd mn md pt : Int32) (pz : Int64) (kc la ca : Int32) (cB : ClassId) (fa : Nat → Int32) (P : List Nat) (c0 sg : Nat) (hLa : by_L P fa) (hpa : P.length + 4 ≤ 16400) (hc0 : c0 ≤ 1114111) (hsg : sg < 128) : yM_v (S := Nat → Int32) ad l y_Mo_quoted w_Mo_quoted { frames := 4, cells := 0, slots := 0, locals := 85 } (dC, dI) vwCl [.ref mo, .int (nI c0), .int (nI sg)] [(mo, .inr (8, [.int th, .int fd, .ref rt, .int mn, .ref rk, .ref rv, .ref rw, .ref ro, .int md, .ref rr, .int (nI P.length), .ref ra, .long pz, .int kc, .ref rc, .ref rl, .ref rb, .int la, .int ca])), (ra, .inl (cB, 16400, .inl fa))] [(cB, .byte)] (fun (u : Nat → Int32) => by_L (P ++ (mq sg c0)) u) (fun u => [(mo, .inr (8, [.int th, .int fd, .ref rt, .int mn, .ref rk, .ref rv, .ref rw, .ref ro, .int md, .ref rr, .int (nI (P ++ (mq sg c0)).length), .ref ra, .long pz, .int kc, .ref rc, .ref rl, .ref rb, .int la, .int ca])), (ra, .inl (cB, 16400, .inl u))]) (fun u => [(cB, .byte)]) 0 0 := by
  refine zy_enterv (cc := prog_12_method_21_code) (nL := 3) (ret := none) (by decide) rfl (Nat.le_of_ble_eq_true rfl) ?_
  intro p e s m below meth c A ls C0 hA hS hP hK hD hl hX
  obtain ⟨hx, hb, hml, hown, hg, hr, hlocks, hin⟩ := C0
  have hown : s.vm.findClass "TextForgeModel" = some m.cls := hown
  have hP : va_P (dC, dI) vwCl [(mo, .inr (8, [.int th, .int fd, .ref rt, .int mn, .ref rk, .ref rv, .ref rw, .ref ro, .int md, .ref rr, .int (nI P.length), .ref ra, .long pz, .int kc, .ref rc, .ref rl, .ref rb, .int la, .int ca])), (ra, .inl (cB, 16400, .inl fa))] s.heap := hP
  have hK : va_K (dC, dI) vwCl [(cB, .byte)] s := hK
  have hD : va_D A [(mo, .inr (8, [.int th, .int fd, .ref rt, .int mn, .ref rk, .ref rv, .ref rw, .ref ro, .int md, .ref rr, .int (nI P.length), .ref ra, .long pz, .int kc, .ref rc, .ref rl, .ref rb, .int la, .int ca])), (ra, .inl (cB, 16400, .inl fa))] := hD
  have hl : lv_has ls 3 [(0, .ref mo), (1, .int (nI c0)), (2, .int (nI sg))] := hl
  refine lv_iload_n hx hb d_Mo_quoted_0 rfl (lv_at hl 1 rfl) ?_
  refine lv_iload_n hx hb d_Mo_quoted_1 rfl (lv_at hl 2 rfl) ?_
  refine lv_icmp_eq (tgt := 11) hx hb d_Mo_quoted_2 (by decide) (fun c_2 => ?_) (fun c_2 => ?_)
  · skip
    have f_2 : c0 = sg := nI_e1 (b := sg) c_2 (by omega) (by omega)
    refine lv_aload_n hx hb d_Mo_quoted_11 rfl (lv_at hl 0 rfl) ?_
    refine lv_bipush (v := 92) hx hb d_Mo_quoted_12 (by decide) ?_
    have hPc := hP.sub (ws' := [(mo, .inr (8, [.int th, .int fd, .ref rt, .int mn, .ref rk, .ref rv, .ref rw, .ref ro, .int md, .ref rr, .int (nI P.length), .ref ra, .long pz, .int kc, .ref rc, .ref rl, .ref rb, .int la, .int ca])), (ra, .inl (cB, 16400, .inl fa))]) [0, 1] rfl
    have hKc := hK.sub (tys' := [(cB, .byte)]) [0] rfl
    have hDc := hD.sub (ws' := [(mo, .inr (8, [.int th, .int fd, .ref rt, .int mn, .ref rk, .ref rv, .ref rw, .ref ro, .int md, .ref rr, .int (nI P.length), .ref ra, .long pz, .int kc, .ref rc, .ref rl, .ref rb, .int la, .int ca])), (ra, .inl (cB, 16400, .inl fa))]) [0, 1] (by decide) rfl
    have hFc := va_free (wc := [(mo, .inr (8, [.int th, .int fd, .ref rt, .int mn, .ref rk, .ref rv, .ref rw, .ref ro, .int md, .ref rr, .int (nI P.length), .ref ra, .long pz, .int kc, .ref rc, .ref rl, .ref rb, .int la, .int ca])), (ra, .inl (cB, 16400, .inl fa))]) hD hS hA [0, 1] rfl
    refine zz_callv (va_runV (As := [.int 92]) (rest := []) ⟨hx, hb, hml, hown, hg⟩ (c_Mo_put l dC dI mo rt rk rv rw ro rr ra rc rl rb th fd mn md (nI P.length) pz kc la ca cB fa P 92 hLa (by (try simp only [List.length_append, List.length_cons, List.length_nil]); omega) s.heap.size) (cwV 1 hg (gi_V kw_863 kw_865 sw_16 kw_9 kw_866) rfl rfl rfl (by decide +kernel) ⟨Nat.le_of_ble_eq_true rfl, Nat.le_of_ble_eq_true rfl⟩) (zz_preV hPc hKc hDc _ (q0 := 0) (ci := 8) rfl rfl) rfl rfl hl.1 rfl (lv_room (Nat.le_of_ble_eq_true rfl)) d_Mo_quoted_14 ⟨Nat.le_of_ble_eq_true rfl, Nat.le_of_ble_eq_true rfl⟩) hS hFc (fun u H1 k9 p9 d9 => va_join (wr := []) hP hD [0, 1] [] rfl rfl (by decide) (by decide) k9 hFc p9 d9) (fun u H locs hw hP hD hK1 hS => ?_)
    obtain ⟨u_1, rfl⟩ : ∃ z, z = u := ⟨_, rfl⟩
    try dsimp only at hw
    have hP : va_P (dC, dI) vwCl [(mo, .inr (8, [.int th, .int fd, .ref rt, .int mn, .ref rk, .ref rv, .ref rw, .ref ro, .int md, .ref rr, .int (nI (P ++ [by_b 92]).length), .ref ra, .long pz, .int kc, .ref rc, .ref rl, .ref rb, .int la, .int ca])), (ra, .inl (cB, 16400, .inl u_1))] H := hP
    have hD : va_D A [(mo, .inr (8, [.int th, .int fd, .ref rt, .int mn, .ref rk, .ref rv, .ref rw, .ref ro, .int md, .ref rr, .int (nI (P ++ [by_b 92]).length), .ref ra, .long pz, .int kc, .ref rc, .ref rl, .ref rb, .int la, .int ca])), (ra, .inl (cB, 16400, .inl u_1))] := hD
    have hL_3 := hw
    refine lv_aload_n hx hb d_Mo_quoted_17 rfl (lv_at hl 0 rfl) ?_
    refine lv_iload_n hx hb d_Mo_quoted_18 rfl (lv_at hl 1 rfl) ?_
    have hPc := hP.sub (ws' := [(mo, .inr (8, [.int th, .int fd, .ref rt, .int mn, .ref rk, .ref rv, .ref rw, .ref ro, .int md, .ref rr, .int (nI (P ++ [by_b 92]).length), .ref ra, .long pz, .int kc, .ref rc, .ref rl, .ref rb, .int la, .int ca])), (ra, .inl (cB, 16400, .inl u_1))]) [0, 1] rfl
    have hKc := hK.sub (tys' := [(cB, .byte)]) [0] rfl
    have hDc := hD.sub (ws' := [(mo, .inr (8, [.int th, .int fd, .ref rt, .int mn, .ref rk, .ref rv, .ref rw, .ref ro, .int md, .ref rr, .int (nI (P ++ [by_b 92]).length), .ref ra, .long pz, .int kc, .ref rc, .ref rl, .ref rb, .int la, .int ca])), (ra, .inl (cB, 16400, .inl u_1))]) [0, 1] (by decide) rfl
    have hFc := va_free (wc := [(mo, .inr (8, [.int th, .int fd, .ref rt, .int mn, .ref rk, .ref rv, .ref rw, .ref ro, .int md, .ref rr, .int (nI (P ++ [by_b 92]).length), .ref ra, .long pz, .int kc, .ref rc, .ref rl, .ref rb, .int la, .int ca])), (ra, .inl (cB, 16400, .inl u_1))]) hD hS hA [0, 1] rfl
    refine zz_callv (va_runV (As := [.int (nI c0)]) (rest := []) ⟨hx, hb, hml, hown, hg⟩ (c_Mo_put l dC dI mo rt rk rv rw ro rr ra rc rl rb th fd mn md (nI (P ++ [by_b 92]).length) pz kc la ca cB u_1 (P ++ [by_b 92]) (nI c0) hL_3 (by (try simp only [List.length_append, List.length_cons, List.length_nil]); omega) H.size) (cwV 1 hg (gi_V kw_863 kw_865 sw_16 kw_9 kw_866) rfl rfl rfl (by decide +kernel) ⟨Nat.le_of_ble_eq_true rfl, Nat.le_of_ble_eq_true rfl⟩) (zz_preV hPc hKc hDc _ (q0 := 0) (ci := 8) rfl rfl) rfl rfl hl.1 rfl (lv_room (Nat.le_of_ble_eq_true rfl)) d_Mo_quoted_19 ⟨Nat.le_of_ble_eq_true rfl, Nat.le_of_ble_eq_true rfl⟩) hS hFc (fun u H1 k9 p9 d9 => va_join (wr := []) hP hD [0, 1] [] rfl rfl (by decide) (by decide) k9 hFc p9 d9) (fun u H locs hw hP hD hK1 hS => ?_)
    obtain ⟨u_4, rfl⟩ : ∃ z, z = u := ⟨_, rfl⟩
    try dsimp only at hw
    have hP : va_P (dC, dI) vwCl [(mo, .inr (8, [.int th, .int fd, .ref rt, .int mn, .ref rk, .ref rv, .ref rw, .ref ro, .int md, .ref rr, .int (nI ((P ++ [by_b 92]) ++ [by_b (nI c0)]).length), .ref ra, .long pz, .int kc, .ref rc, .ref rl, .ref rb, .int la, .int ca])), (ra, .inl (cB, 16400, .inl u_4))] H := hP
    have hD : va_D A [(mo, .inr (8, [.int th, .int fd, .ref rt, .int mn, .ref rk, .ref rv, .ref rw, .ref ro, .int md, .ref rr, .int (nI ((P ++ [by_b 92]) ++ [by_b (nI c0)]).length), .ref ra, .long pz, .int kc, .ref rc, .ref rl, .ref rb, .int la, .int ca])), (ra, .inl (cB, 16400, .inl u_4))] := hD
    have hL_6 := hw
    refine lv_goto (tgt := 96) hx hb d_Mo_quoted_22 (by decide) ?_
    have hP9 := hP.sub (ws' := [(mo, .inr (8, [.int th, .int fd, .ref rt, .int mn, .ref rk, .ref rv, .ref rw, .ref ro, .int md, .ref rr, .int (nI ((P ++ [by_b 92]) ++ [by_b (nI c0)]).length), .ref ra, .long pz, .int kc, .ref rc, .ref rl, .ref rb, .int la, .int ca])), (ra, .inl (cB, 16400, .inl u_4))]) [0, 1] rfl
    have hD9 := hD.sub (ws' := [(mo, .inr (8, [.int th, .int fd, .ref rt, .int mn, .ref rk, .ref rv, .ref rw, .ref ro, .int md, .ref rr, .int (nI ((P ++ [by_b 92]) ++ [by_b (nI c0)]).length), .ref ra, .long pz, .int kc, .ref rc, .ref rl, .ref rb, .int la, .int ca])), (ra, .inl (cB, 16400, .inl u_4))]) [0, 1] (by decide) rfl
    have hK9 := hK.sub (tys' := [(cB, .byte)]) [0] rfl
    rw [show ((P ++ [by_b 92]) ++ [by_b (nI c0)]) = (P ++ (mq sg c0)) from mq_1 hsg (Or.inl f_2)] at hP9 hD9
    exact zz_vret hx hb hr hlocks d_Mo_quoted_96 hS (by first | exact Nat.le_refl _ | decide | omega | (dsimp only; omega)) (by first | exact Nat.le_refl _ | decide | omega | (dsimp only; omega)) u_4 (by rw [show ((P ++ [by_b 92]) ++ [by_b (nI c0)]) = (P ++ (mq sg c0)) from mq_1 hsg (Or.inl f_2)] at hL_6; exact hL_6) hP9 hK9 hD9
  · skip
    have f_2 : c0 ≠ sg := nI_ne (b := sg) c_2
    refine lv_iload_n hx hb d_Mo_quoted_5 rfl (lv_at hl 1 rfl) ?_
    refine lv_bipush (v := 92) hx hb d_Mo_quoted_6 (by decide) ?_
    refine lv_icmp_ne (tgt := 25) hx hb d_Mo_quoted_8 (by decide) (fun c_8 => ?_) (fun c_8 => ?_)
    · skip
      have f_8 : c0 ≠ 92 := nI_ne (b := 92) c_8
      refine lv_iload_n hx hb d_Mo_quoted_25 rfl (lv_at hl 1 rfl) ?_
      refine lv_bipush (v := 7) hx hb d_Mo_quoted_26 (by decide) ?_
      refine lv_icmp_lt (tgt := 59) hx hb d_Mo_quoted_28 (by decide) (fun c_28 => ?_) (fun c_28 => ?_)
      · skip
        have f_28 : c0 < 7 := (nI_ltI (b := 7) (by omega) (by omega)).mp c_28
        refine lv_iload_n hx hb d_Mo_quoted_59 rfl (lv_at hl 1 rfl) ?_
        refine lv_bipush (v := 32) hx hb d_Mo_quoted_60 (by decide) ?_
        refine lv_icmp_lt (tgt := 71) hx hb d_Mo_quoted_62 (by decide) (fun c_62 => ?_) (fun c_62 => ?_)
        · skip
          have f_62 : c0 < 32 := (nI_ltI (b := 32) (by omega) (by omega)).mp c_62
          refine lv_aload_n hx hb d_Mo_quoted_71 rfl (lv_at hl 0 rfl) ?_
          refine lv_bipush (v := 92) hx hb d_Mo_quoted_72 (by decide) ?_
          have hPc := hP.sub (ws' := [(mo, .inr (8, [.int th, .int fd, .ref rt, .int mn, .ref rk, .ref rv, .ref rw, .ref ro, .int md, .ref rr, .int (nI P.length), .ref ra, .long pz, .int kc, .ref rc, .ref rl, .ref rb, .int la, .int ca])), (ra, .inl (cB, 16400, .inl fa))]) [0, 1] rfl
          have hKc := hK.sub (tys' := [(cB, .byte)]) [0] rfl
          have hDc := hD.sub (ws' := [(mo, .inr (8, [.int th, .int fd, .ref rt, .int mn, .ref rk, .ref rv, .ref rw, .ref ro, .int md, .ref rr, .int (nI P.length), .ref ra, .long pz, .int kc, .ref rc, .ref rl, .ref rb, .int la, .int ca])), (ra, .inl (cB, 16400, .inl fa))]) [0, 1] (by decide) rfl
          have hFc := va_free (wc := [(mo, .inr (8, [.int th, .int fd, .ref rt, .int mn, .ref rk, .ref rv, .ref rw, .ref ro, .int md, .ref rr, .int (nI P.length), .ref ra, .long pz, .int kc, .ref rc, .ref rl, .ref rb, .int la, .int ca])), (ra, .inl (cB, 16400, .inl fa))]) hD hS hA [0, 1] rfl
          refine zz_callv (va_runV (As := [.int 92]) (rest := []) ⟨hx, hb, hml, hown, hg⟩ (c_Mo_put l dC dI mo rt rk rv rw ro rr ra rc rl rb th fd mn md (nI P.length) pz kc la ca cB fa P 92 hLa (by (try simp only [List.length_append, List.length_cons, List.length_nil]); omega) s.heap.size) (cwV 1 hg (gi_V kw_863 kw_865 sw_16 kw_9 kw_866) rfl rfl rfl (by decide +kernel) ⟨Nat.le_of_ble_eq_true rfl, Nat.le_of_ble_eq_true rfl⟩) (zz_preV hPc hKc hDc _ (q0 := 0) (ci := 8) rfl rfl) rfl rfl hl.1 rfl (lv_room (Nat.le_of_ble_eq_true rfl)) d_Mo_quoted_74 ⟨Nat.le_of_ble_eq_true rfl, Nat.le_of_ble_eq_true rfl⟩) hS hFc (fun u H1 k9 p9 d9 => va_join (wr := []) hP hD [0, 1] [] rfl rfl (by decide) (by decide) k9 hFc p9 d9) (fun u H locs hw hP hD hK1 hS => ?_)
          obtain ⟨u_7, rfl⟩ : ∃ z, z = u := ⟨_, rfl⟩
          try dsimp only at hw
          have hP : va_P (dC, dI) vwCl [(mo, .inr (8, [.int th, .int fd, .ref rt, .int mn, .ref rk, .ref rv, .ref rw, .ref ro, .int md, .ref rr, .int (nI (P ++ [by_b 92]).length), .ref ra, .long pz, .int kc, .ref rc, .ref rl, .ref rb, .int la, .int ca])), (ra, .inl (cB, 16400, .inl u_7))] H := hP
          have hD : va_D A [(mo, .inr (8, [.int th, .int fd, .ref rt, .int mn, .ref rk, .ref rv, .ref rw, .ref ro, .int md, .ref rr, .int (nI (P ++ [by_b 92]).length), .ref ra, .long pz, .int kc, .ref rc, .ref rl, .ref rb, .int la, .int ca])), (ra, .inl (cB, 16400, .inl u_7))] := hD
          have hL_9 := hw
          refine lv_aload_n hx hb d_Mo_quoted_77 rfl (lv_at hl 0 rfl) ?_
          refine lv_bipush (v := 120) hx hb d_Mo_quoted_78 (by decide) ?_
          have hPc := hP.sub (ws' := [(mo, .inr (8, [.int th, .int fd, .ref rt, .int mn, .ref rk, .ref rv, .ref rw, .ref ro, .int md, .ref rr, .int (nI (P ++ [by_b 92]).length), .ref ra, .long pz, .int kc, .ref rc, .ref rl, .ref rb, .int la, .int ca])), (ra, .inl (cB, 16400, .inl u_7))]) [0, 1] rfl
          have hKc := hK.sub (tys' := [(cB, .byte)]) [0] rfl
          have hDc := hD.sub (ws' := [(mo, .inr (8, [.int th, .int fd, .ref rt, .int mn, .ref rk, .ref rv, .ref rw, .ref ro, .int md, .ref rr, .int (nI (P ++ [by_b 92]).length), .ref ra, .long pz, .int kc, .ref rc, .ref rl, .ref rb, .int la, .int ca])), (ra, .inl (cB, 16400, .inl u_7))]) [0, 1] (by decide) rfl
          have hFc := va_free (wc := [(mo, .inr (8, [.int th, .int fd, .ref rt, .int mn, .ref rk, .ref rv, .ref rw, .ref ro, .int md, .ref rr, .int (nI (P ++ [by_b 92]).length), .ref ra, .long pz, .int kc, .ref rc, .ref rl, .ref rb, .int la, .int ca])), (ra, .inl (cB, 16400, .inl u_7))]) hD hS hA [0, 1] rfl
          refine zz_callv (va_runV (As := [.int 120]) (rest := []) ⟨hx, hb, hml, hown, hg⟩ (c_Mo_put l dC dI mo rt rk rv rw ro rr ra rc rl rb th fd mn md (nI (P ++ [by_b 92]).length) pz kc la ca cB u_7 (P ++ [by_b 92]) 120 hL_9 (by (try simp only [List.length_append, List.length_cons, List.length_nil]); omega) H.size) (cwV 1 hg (gi_V kw_863 kw_865 sw_16 kw_9 kw_866) rfl rfl rfl (by decide +kernel) ⟨Nat.le_of_ble_eq_true rfl, Nat.le_of_ble_eq_true rfl⟩) (zz_preV hPc hKc hDc _ (q0 := 0) (ci := 8) rfl rfl) rfl rfl hl.1 rfl (lv_room (Nat.le_of_ble_eq_true rfl)) d_Mo_quoted_80 ⟨Nat.le_of_ble_eq_true rfl, Nat.le_of_ble_eq_true rfl⟩) hS hFc (fun u H1 k9 p9 d9 => va_join (wr := []) hP hD [0, 1] [] rfl rfl (by decide) (by decide) k9 hFc p9 d9) (fun u H locs hw hP hD hK1 hS => ?_)
          obtain ⟨u_10, rfl⟩ : ∃ z, z = u := ⟨_, rfl⟩
          try dsimp only at hw
          have hP : va_P (dC, dI) vwCl [(mo, .inr (8, [.int th, .int fd, .ref rt, .int mn, .ref rk, .ref rv, .ref rw, .ref ro, .int md, .ref rr, .int (nI ((P ++ [by_b 92]) ++ [by_b 120]).length), .ref ra, .long pz, .int kc, .ref rc, .ref rl, .ref rb, .int la, .int ca])), (ra, .inl (cB, 16400, .inl u_10))] H := hP
          have hD : va_D A [(mo, .inr (8, [.int th, .int fd, .ref rt, .int mn, .ref rk, .ref rv, .ref rw, .ref ro, .int md, .ref rr, .int (nI ((P ++ [by_b 92]) ++ [by_b 120]).length), .ref ra, .long pz, .int kc, .ref rc, .ref rl, .ref rb, .int la, .int ca])), (ra, .inl (cB, 16400, .inl u_10))] := hD
          have hL_12 := hw
          refine lv_aload_n hx hb d_Mo_quoted_83 rfl (lv_at hl 0 rfl) ?_
          refine lv_iload_n hx hb d_Mo_quoted_84 rfl (lv_at hl 1 rfl) ?_
          have hPc := hP.sub (ws' := [(mo, .inr (8, [.int th, .int fd, .ref rt, .int mn, .ref rk, .ref rv, .ref rw, .ref ro, .int md, .ref rr, .int (nI ((P ++ [by_b 92]) ++ [by_b 120]).length), .ref ra, .long pz, .int kc, .ref rc, .ref rl, .ref rb, .int la, .int ca])), (ra, .inl (cB, 16400, .inl u_10))]) [0, 1] rfl
          have hKc := hK.sub (tys' := [(cB, .byte)]) [0] rfl
          have hDc := hD.sub (ws' := [(mo, .inr (8, [.int th, .int fd, .ref rt, .int mn, .ref rk, .ref rv, .ref rw, .ref ro, .int md, .ref rr, .int (nI ((P ++ [by_b 92]) ++ [by_b 120]).length), .ref ra, .long pz, .int kc, .ref rc, .ref rl, .ref rb, .int la, .int ca])), (ra, .inl (cB, 16400, .inl u_10))]) [0, 1] (by decide) rfl
          have hFc := va_free (wc := [(mo, .inr (8, [.int th, .int fd, .ref rt, .int mn, .ref rk, .ref rv, .ref rw, .ref ro, .int md, .ref rr, .int (nI ((P ++ [by_b 92]) ++ [by_b 120]).length), .ref ra, .long pz, .int kc, .ref rc, .ref rl, .ref rb, .int la, .int ca])), (ra, .inl (cB, 16400, .inl u_10))]) hD hS hA [0, 1] rfl
          refine zz_callv (va_runV (As := [.int (nI c0)]) (rest := []) ⟨hx, hb, hml, hown, hg⟩ (c_Mo_hex l dC dI mo rt rk rv rw ro rr ra rc rl rb th fd mn md (nI ((P ++ [by_b 92]) ++ [by_b 120]).length) pz kc la ca cB u_10 ((P ++ [by_b 92]) ++ [by_b 120]) c0 hL_12 (by (try simp only [List.length_append, List.length_cons, List.length_nil]); omega) (by omega) H.size) (cwV 1 hg (gi_V kw_886 kw_888 sw_20 kw_9 kw_889) rfl rfl rfl (by decide +kernel) ⟨Nat.le_of_ble_eq_true rfl, Nat.le_of_ble_eq_true rfl⟩) (zz_preV hPc hKc hDc _ (q0 := 0) (ci := 8) rfl rfl) rfl rfl hl.1 rfl (lv_room (Nat.le_of_ble_eq_true rfl)) d_Mo_quoted_85 ⟨Nat.le_of_ble_eq_true rfl, Nat.le_of_ble_eq_true rfl⟩) hS hFc (fun u H1 k9 p9 d9 => va_join (wr := []) hP hD [0, 1] [] rfl rfl (by decide) (by decide) k9 hFc p9 d9) (fun u H locs hw hP hD hK1 hS => ?_)
          obtain ⟨u_13, rfl⟩ : ∃ z, z = u := ⟨_, rfl⟩
          try dsimp only at hw
          have hP : va_P (dC, dI) vwCl [(mo, .inr (8, [.int th, .int fd, .ref rt, .int mn, .ref rk, .ref rv, .ref rw, .ref ro, .int md, .ref rr, .int (nI (((P ++ [by_b 92]) ++ [by_b 120]) ++ [nu_d 97 (c0 / 16), nu_d 97 (c0 % 16)]).length), .ref ra, .long pz, .int kc, .ref rc, .ref rl, .ref rb, .int la, .int ca])), (ra, .inl (cB, 16400, .inl u_13))] H := hP
          have hD : va_D A [(mo, .inr (8, [.int th, .int fd, .ref rt, .int mn, .ref rk, .ref rv, .ref rw, .ref ro, .int md, .ref rr, .int (nI (((P ++ [by_b 92]) ++ [by_b 120]) ++ [nu_d 97 (c0 / 16), nu_d 97 (c0 % 16)]).length), .ref ra, .long pz, .int kc, .ref rc, .ref rl, .ref rb, .int la, .int ca])), (ra, .inl (cB, 16400, .inl u_13))] := hD
          have hL_15 := hw
          refine lv_goto (tgt := 96) hx hb d_Mo_quoted_88 (by decide) ?_
          have hP9 := hP.sub (ws' := [(mo, .inr (8, [.int th, .int fd, .ref rt, .int mn, .ref rk, .ref rv, .ref rw, .ref ro, .int md, .ref rr, .int (nI (((P ++ [by_b 92]) ++ [by_b 120]) ++ [nu_d 97 (c0 / 16), nu_d 97 (c0 % 16)]).length), .ref ra, .long pz, .int kc, .ref rc, .ref rl, .ref rb, .int la, .int ca])), (ra, .inl (cB, 16400, .inl u_13))]) [0, 1] rfl
          have hD9 := hD.sub (ws' := [(mo, .inr (8, [.int th, .int fd, .ref rt, .int mn, .ref rk, .ref rv, .ref rw, .ref ro, .int md, .ref rr, .int (nI (((P ++ [by_b 92]) ++ [by_b 120]) ++ [nu_d 97 (c0 / 16), nu_d 97 (c0 % 16)]).length), .ref ra, .long pz, .int kc, .ref rc, .ref rl, .ref rb, .int la, .int ca])), (ra, .inl (cB, 16400, .inl u_13))]) [0, 1] (by decide) rfl
          have hK9 := hK.sub (tys' := [(cB, .byte)]) [0] rfl
          rw [show (((P ++ [by_b 92]) ++ [by_b 120]) ++ [nu_d 97 (c0 / 16), nu_d 97 (c0 % 16)]) = (P ++ (mq sg c0)) from mq_3 f_2 f_8 (fun z => absurd z.1 (by omega)) (Or.inl f_62)] at hP9 hD9
          exact zz_vret hx hb hr hlocks d_Mo_quoted_96 hS (by first | exact Nat.le_refl _ | decide | omega | (dsimp only; omega)) (by first | exact Nat.le_refl _ | decide | omega | (dsimp only; omega)) u_13 (by rw [show (((P ++ [by_b 92]) ++ [by_b 120]) ++ [nu_d 97 (c0 / 16), nu_d 97 (c0 % 16)]) = (P ++ (mq sg c0)) from mq_3 f_2 f_8 (fun z => absurd z.1 (by omega)) (Or.inl f_62)] at hL_15; exact hL_15) hP9 hK9 hD9
        · skip
          have f_62 : 32 ≤ c0 := Nat.le_of_not_lt (fun z => c_62 (nI_lt (b := 32) z (by omega)))
          refine lv_iload_n hx hb d_Mo_quoted_65 rfl (lv_at hl 1 rfl) ?_
          refine lv_bipush (v := 127) hx hb d_Mo_quoted_66 (by decide) ?_
          refine lv_icmp_ne (tgt := 91) hx hb d_Mo_quoted_68 (by decide) (fun c_68 => ?_) (fun c_68 => ?_)
          · skip
            have f_68 : c0 ≠ 127 := nI_ne (b := 127) c_68
            refine lv_aload_n hx hb d_Mo_quoted_91 rfl (lv_at hl 0 rfl) ?_
            refine lv_iload_n hx hb d_Mo_quoted_92 rfl (lv_at hl 1 rfl) ?_
            have hPc := hP.sub (ws' := [(mo, .inr (8, [.int th, .int fd, .ref rt, .int mn, .ref rk, .ref rv, .ref rw, .ref ro, .int md, .ref rr, .int (nI P.length), .ref ra, .long pz, .int kc, .ref rc, .ref rl, .ref rb, .int la, .int ca])), (ra, .inl (cB, 16400, .inl fa))]) [0, 1] rfl
            have hKc := hK.sub (tys' := [(cB, .byte)]) [0] rfl
            have hDc := hD.sub (ws' := [(mo, .inr (8, [.int th, .int fd, .ref rt, .int mn, .ref rk, .ref rv, .ref rw, .ref ro, .int md, .ref rr, .int (nI P.length), .ref ra, .long pz, .int kc, .ref rc, .ref rl, .ref rb, .int la, .int ca])), (ra, .inl (cB, 16400, .inl fa))]) [0, 1] (by decide) rfl
            have hFc := va_free (wc := [(mo, .inr (8, [.int th, .int fd, .ref rt, .int mn, .ref rk, .ref rv, .ref rw, .ref ro, .int md, .ref rr, .int (nI P.length), .ref ra, .long pz, .int kc, .ref rc, .ref rl, .ref rb, .int la, .int ca])), (ra, .inl (cB, 16400, .inl fa))]) hD hS hA [0, 1] rfl
            refine zz_callv (va_runV (As := [.int (nI c0)]) (rest := []) ⟨hx, hb, hml, hown, hg⟩ (c_Mo_utf l dC dI mo rt rk rv rw ro rr ra rc rl rb th fd mn md (nI P.length) pz kc la ca cB fa P c0 hLa (by (try simp only [List.length_append, List.length_cons, List.length_nil]); omega) hc0 s.heap.size) (cwV 1 hg (gi_V kw_890 kw_892 sw_21 kw_9 kw_893) rfl rfl rfl (by decide +kernel) ⟨Nat.le_of_ble_eq_true rfl, Nat.le_of_ble_eq_true rfl⟩) (zz_preV hPc hKc hDc _ (q0 := 0) (ci := 8) rfl rfl) rfl rfl hl.1 rfl (lv_room (Nat.le_of_ble_eq_true rfl)) d_Mo_quoted_93 ⟨Nat.le_of_ble_eq_true rfl, Nat.le_of_ble_eq_true rfl⟩) hS hFc (fun u H1 k9 p9 d9 => va_join (wr := []) hP hD [0, 1] [] rfl rfl (by decide) (by decide) k9 hFc p9 d9) (fun u H locs hw hP hD hK1 hS => ?_)
            obtain ⟨u_16, rfl⟩ : ∃ z, z = u := ⟨_, rfl⟩
            try dsimp only at hw
            have hP : va_P (dC, dI) vwCl [(mo, .inr (8, [.int th, .int fd, .ref rt, .int mn, .ref rk, .ref rv, .ref rw, .ref ro, .int md, .ref rr, .int (nI (P ++ (ut_8 c0)).length), .ref ra, .long pz, .int kc, .ref rc, .ref rl, .ref rb, .int la, .int ca])), (ra, .inl (cB, 16400, .inl u_16))] H := hP
            have hD : va_D A [(mo, .inr (8, [.int th, .int fd, .ref rt, .int mn, .ref rk, .ref rv, .ref rw, .ref ro, .int md, .ref rr, .int (nI (P ++ (ut_8 c0)).length), .ref ra, .long pz, .int kc, .ref rc, .ref rl, .ref rb, .int la, .int ca])), (ra, .inl (cB, 16400, .inl u_16))] := hD
            have hL_18 := hw
            have hP9 := hP.sub (ws' := [(mo, .inr (8, [.int th, .int fd, .ref rt, .int mn, .ref rk, .ref rv, .ref rw, .ref ro, .int md, .ref rr, .int (nI (P ++ (ut_8 c0)).length), .ref ra, .long pz, .int kc, .ref rc, .ref rl, .ref rb, .int la, .int ca])), (ra, .inl (cB, 16400, .inl u_16))]) [0, 1] rfl
            have hD9 := hD.sub (ws' := [(mo, .inr (8, [.int th, .int fd, .ref rt, .int mn, .ref rk, .ref rv, .ref rw, .ref ro, .int md, .ref rr, .int (nI (P ++ (ut_8 c0)).length), .ref ra, .long pz, .int kc, .ref rc, .ref rl, .ref rb, .int la, .int ca])), (ra, .inl (cB, 16400, .inl u_16))]) [0, 1] (by decide) rfl
            have hK9 := hK.sub (tys' := [(cB, .byte)]) [0] rfl
            rw [show (P ++ (ut_8 c0)) = (P ++ (mq sg c0)) from mq_4 f_2 f_8 (Nat.not_lt.mpr f_62) f_68] at hP9 hD9
            exact zz_vret hx hb hr hlocks d_Mo_quoted_96 hS (by first | exact Nat.le_refl _ | decide | omega | (dsimp only; omega)) (by first | exact Nat.le_refl _ | decide | omega | (dsimp only; omega)) u_16 (by rw [show (P ++ (ut_8 c0)) = (P ++ (mq sg c0)) from mq_4 f_2 f_8 (Nat.not_lt.mpr f_62) f_68] at hL_18; exact hL_18) hP9 hK9 hD9
          · skip
            have f_68 : c0 = 127 := nI_e1 (b := 127) c_68 (by omega) (by omega)
            refine lv_aload_n hx hb d_Mo_quoted_71 rfl (lv_at hl 0 rfl) ?_
            refine lv_bipush (v := 92) hx hb d_Mo_quoted_72 (by decide) ?_
            have hPc := hP.sub (ws' := [(mo, .inr (8, [.int th, .int fd, .ref rt, .int mn, .ref rk, .ref rv, .ref rw, .ref ro, .int md, .ref rr, .int (nI P.length), .ref ra, .long pz, .int kc, .ref rc, .ref rl, .ref rb, .int la, .int ca])), (ra, .inl (cB, 16400, .inl fa))]) [0, 1] rfl
            have hKc := hK.sub (tys' := [(cB, .byte)]) [0] rfl
            have hDc := hD.sub (ws' := [(mo, .inr (8, [.int th, .int fd, .ref rt, .int mn, .ref rk, .ref rv, .ref rw, .ref ro, .int md, .ref rr, .int (nI P.length), .ref ra, .long pz, .int kc, .ref rc, .ref rl, .ref rb, .int la, .int ca])), (ra, .inl (cB, 16400, .inl fa))]) [0, 1] (by decide) rfl
            have hFc := va_free (wc := [(mo, .inr (8, [.int th, .int fd, .ref rt, .int mn, .ref rk, .ref rv, .ref rw, .ref ro, .int md, .ref rr, .int (nI P.length), .ref ra, .long pz, .int kc, .ref rc, .ref rl, .ref rb, .int la, .int ca])), (ra, .inl (cB, 16400, .inl fa))]) hD hS hA [0, 1] rfl
            refine zz_callv (va_runV (As := [.int 92]) (rest := []) ⟨hx, hb, hml, hown, hg⟩ (c_Mo_put l dC dI mo rt rk rv rw ro rr ra rc rl rb th fd mn md (nI P.length) pz kc la ca cB fa P 92 hLa (by (try simp only [List.length_append, List.length_cons, List.length_nil]); omega) s.heap.size) (cwV 1 hg (gi_V kw_863 kw_865 sw_16 kw_9 kw_866) rfl rfl rfl (by decide +kernel) ⟨Nat.le_of_ble_eq_true rfl, Nat.le_of_ble_eq_true rfl⟩) (zz_preV hPc hKc hDc _ (q0 := 0) (ci := 8) rfl rfl) rfl rfl hl.1 rfl (lv_room (Nat.le_of_ble_eq_true rfl)) d_Mo_quoted_74 ⟨Nat.le_of_ble_eq_true rfl, Nat.le_of_ble_eq_true rfl⟩) hS hFc (fun u H1 k9 p9 d9 => va_join (wr := []) hP hD [0, 1] [] rfl rfl (by decide) (by decide) k9 hFc p9 d9) (fun u H locs hw hP hD hK1 hS => ?_)
            obtain ⟨u_19, rfl⟩ : ∃ z, z = u := ⟨_, rfl⟩
            try dsimp only at hw
            have hP : va_P (dC, dI) vwCl [(mo, .inr (8, [.int th, .int fd, .ref rt, .int mn, .ref rk, .ref rv, .ref rw, .ref ro, .int md, .ref rr, .int (nI (P ++ [by_b 92]).length), .ref ra, .long pz, .int kc, .ref rc, .ref rl, .ref rb, .int la, .int ca])), (ra, .inl (cB, 16400, .inl u_19))] H := hP
            have hD : va_D A [(mo, .inr (8, [.int th, .int fd, .ref rt, .int mn, .ref rk, .ref rv, .ref rw, .ref ro, .int md, .ref rr, .int (nI (P ++ [by_b 92]).length), .ref ra, .long pz, .int kc, .ref rc, .ref rl, .ref rb, .int la, .int ca])), (ra, .inl (cB, 16400, .inl u_19))] := hD
            have hL_21 := hw
            refine lv_aload_n hx hb d_Mo_quoted_77 rfl (lv_at hl 0 rfl) ?_
            refine lv_bipush (v := 120) hx hb d_Mo_quoted_78 (by decide) ?_
            have hPc := hP.sub (ws' := [(mo, .inr (8, [.int th, .int fd, .ref rt, .int mn, .ref rk, .ref rv, .ref rw, .ref ro, .int md, .ref rr, .int (nI (P ++ [by_b 92]).length), .ref ra, .long pz, .int kc, .ref rc, .ref rl, .ref rb, .int la, .int ca])), (ra, .inl (cB, 16400, .inl u_19))]) [0, 1] rfl
            have hKc := hK.sub (tys' := [(cB, .byte)]) [0] rfl
            have hDc := hD.sub (ws' := [(mo, .inr (8, [.int th, .int fd, .ref rt, .int mn, .ref rk, .ref rv, .ref rw, .ref ro, .int md, .ref rr, .int (nI (P ++ [by_b 92]).length), .ref ra, .long pz, .int kc, .ref rc, .ref rl, .ref rb, .int la, .int ca])), (ra, .inl (cB, 16400, .inl u_19))]) [0, 1] (by decide) rfl
            have hFc := va_free (wc := [(mo, .inr (8, [.int th, .int fd, .ref rt, .int mn, .ref rk, .ref rv, .ref rw, .ref ro, .int md, .ref rr, .int (nI (P ++ [by_b 92]).length), .ref ra, .long pz, .int kc, .ref rc, .ref rl, .ref rb, .int la, .int ca])), (ra, .inl (cB, 16400, .inl u_19))]) hD hS hA [0, 1] rfl
            refine zz_callv (va_runV (As := [.int 120]) (rest := []) ⟨hx, hb, hml, hown, hg⟩ (c_Mo_put l dC dI mo rt rk rv rw ro rr ra rc rl rb th fd mn md (nI (P ++ [by_b 92]).length) pz kc la ca cB u_19 (P ++ [by_b 92]) 120 hL_21 (by (try simp only [List.length_append, List.length_cons, List.length_nil]); omega) H.size) (cwV 1 hg (gi_V kw_863 kw_865 sw_16 kw_9 kw_866) rfl rfl rfl (by decide +kernel) ⟨Nat.le_of_ble_eq_true rfl, Nat.le_of_ble_eq_true rfl⟩) (zz_preV hPc hKc hDc _ (q0 := 0) (ci := 8) rfl rfl) rfl rfl hl.1 rfl (lv_room (Nat.le_of_ble_eq_true rfl)) d_Mo_quoted_80 ⟨Nat.le_of_ble_eq_true rfl, Nat.le_of_ble_eq_true rfl⟩) hS hFc (fun u H1 k9 p9 d9 => va_join (wr := []) hP hD [0, 1] [] rfl rfl (by decide) (by decide) k9 hFc p9 d9) (fun u H locs hw hP hD hK1 hS => ?_)
            obtain ⟨u_22, rfl⟩ : ∃ z, z = u := ⟨_, rfl⟩
            try dsimp only at hw
            have hP : va_P (dC, dI) vwCl [(mo, .inr (8, [.int th, .int fd, .ref rt, .int mn, .ref rk, .ref rv, .ref rw, .ref ro, .int md, .ref rr, .int (nI ((P ++ [by_b 92]) ++ [by_b 120]).length), .ref ra, .long pz, .int kc, .ref rc, .ref rl, .ref rb, .int la, .int ca])), (ra, .inl (cB, 16400, .inl u_22))] H := hP
            have hD : va_D A [(mo, .inr (8, [.int th, .int fd, .ref rt, .int mn, .ref rk, .ref rv, .ref rw, .ref ro, .int md, .ref rr, .int (nI ((P ++ [by_b 92]) ++ [by_b 120]).length), .ref ra, .long pz, .int kc, .ref rc, .ref rl, .ref rb, .int la, .int ca])), (ra, .inl (cB, 16400, .inl u_22))] := hD
            have hL_24 := hw
            refine lv_aload_n hx hb d_Mo_quoted_83 rfl (lv_at hl 0 rfl) ?_
            refine lv_iload_n hx hb d_Mo_quoted_84 rfl (lv_at hl 1 rfl) ?_
            have hPc := hP.sub (ws' := [(mo, .inr (8, [.int th, .int fd, .ref rt, .int mn, .ref rk, .ref rv, .ref rw, .ref ro, .int md, .ref rr, .int (nI ((P ++ [by_b 92]) ++ [by_b 120]).length), .ref ra, .long pz, .int kc, .ref rc, .ref rl, .ref rb, .int la, .int ca])), (ra, .inl (cB, 16400, .inl u_22))]) [0, 1] rfl
            have hKc := hK.sub (tys' := [(cB, .byte)]) [0] rfl
            have hDc := hD.sub (ws' := [(mo, .inr (8, [.int th, .int fd, .ref rt, .int mn, .ref rk, .ref rv, .ref rw, .ref ro, .int md, .ref rr, .int (nI ((P ++ [by_b 92]) ++ [by_b 120]).length), .ref ra, .long pz, .int kc, .ref rc, .ref rl, .ref rb, .int la, .int ca])), (ra, .inl (cB, 16400, .inl u_22))]) [0, 1] (by decide) rfl
            have hFc := va_free (wc := [(mo, .inr (8, [.int th, .int fd, .ref rt, .int mn, .ref rk, .ref rv, .ref rw, .ref ro, .int md, .ref rr, .int (nI ((P ++ [by_b 92]) ++ [by_b 120]).length), .ref ra, .long pz, .int kc, .ref rc, .ref rl, .ref rb, .int la, .int ca])), (ra, .inl (cB, 16400, .inl u_22))]) hD hS hA [0, 1] rfl
            refine zz_callv (va_runV (As := [.int (nI c0)]) (rest := []) ⟨hx, hb, hml, hown, hg⟩ (c_Mo_hex l dC dI mo rt rk rv rw ro rr ra rc rl rb th fd mn md (nI ((P ++ [by_b 92]) ++ [by_b 120]).length) pz kc la ca cB u_22 ((P ++ [by_b 92]) ++ [by_b 120]) c0 hL_24 (by (try simp only [List.length_append, List.length_cons, List.length_nil]); omega) (by omega) H.size) (cwV 1 hg (gi_V kw_886 kw_888 sw_20 kw_9 kw_889) rfl rfl rfl (by decide +kernel) ⟨Nat.le_of_ble_eq_true rfl, Nat.le_of_ble_eq_true rfl⟩) (zz_preV hPc hKc hDc _ (q0 := 0) (ci := 8) rfl rfl) rfl rfl hl.1 rfl (lv_room (Nat.le_of_ble_eq_true rfl)) d_Mo_quoted_85 ⟨Nat.le_of_ble_eq_true rfl, Nat.le_of_ble_eq_true rfl⟩) hS hFc (fun u H1 k9 p9 d9 => va_join (wr := []) hP hD [0, 1] [] rfl rfl (by decide) (by decide) k9 hFc p9 d9) (fun u H locs hw hP hD hK1 hS => ?_)
            obtain ⟨u_25, rfl⟩ : ∃ z, z = u := ⟨_, rfl⟩
            try dsimp only at hw
            have hP : va_P (dC, dI) vwCl [(mo, .inr (8, [.int th, .int fd, .ref rt, .int mn, .ref rk, .ref rv, .ref rw, .ref ro, .int md, .ref rr, .int (nI (((P ++ [by_b 92]) ++ [by_b 120]) ++ [nu_d 97 (c0 / 16), nu_d 97 (c0 % 16)]).length), .ref ra, .long pz, .int kc, .ref rc, .ref rl, .ref rb, .int la, .int ca])), (ra, .inl (cB, 16400, .inl u_25))] H := hP
            have hD : va_D A [(mo, .inr (8, [.int th, .int fd, .ref rt, .int mn, .ref rk, .ref rv, .ref rw, .ref ro, .int md, .ref rr, .int (nI (((P ++ [by_b 92]) ++ [by_b 120]) ++ [nu_d 97 (c0 / 16), nu_d 97 (c0 % 16)]).length), .ref ra, .long pz, .int kc, .ref rc, .ref rl, .ref rb, .int la, .int ca])), (ra, .inl (cB, 16400, .inl u_25))] := hD
            have hL_27 := hw
            refine lv_goto (tgt := 96) hx hb d_Mo_quoted_88 (by decide) ?_
            have hP9 := hP.sub (ws' := [(mo, .inr (8, [.int th, .int fd, .ref rt, .int mn, .ref rk, .ref rv, .ref rw, .ref ro, .int md, .ref rr, .int (nI (((P ++ [by_b 92]) ++ [by_b 120]) ++ [nu_d 97 (c0 / 16), nu_d 97 (c0 % 16)]).length), .ref ra, .long pz, .int kc, .ref rc, .ref rl, .ref rb, .int la, .int ca])), (ra, .inl (cB, 16400, .inl u_25))]) [0, 1] rfl
            have hD9 := hD.sub (ws' := [(mo, .inr (8, [.int th, .int fd, .ref rt, .int mn, .ref rk, .ref rv, .ref rw, .ref ro, .int md, .ref rr, .int (nI (((P ++ [by_b 92]) ++ [by_b 120]) ++ [nu_d 97 (c0 / 16), nu_d 97 (c0 % 16)]).length), .ref ra, .long pz, .int kc, .ref rc, .ref rl, .ref rb, .int la, .int ca])), (ra, .inl (cB, 16400, .inl u_25))]) [0, 1] (by decide) rfl
            have hK9 := hK.sub (tys' := [(cB, .byte)]) [0] rfl
            rw [show (((P ++ [by_b 92]) ++ [by_b 120]) ++ [nu_d 97 (c0 / 16), nu_d 97 (c0 % 16)]) = (P ++ (mq sg c0)) from mq_3 f_2 f_8 (fun z => absurd z.1 (by omega)) (Or.inr f_68)] at hP9 hD9
            exact zz_vret hx hb hr hlocks d_Mo_quoted_96 hS (by first | exact Nat.le_refl _ | decide | omega | (dsimp only; omega)) (by first | exact Nat.le_refl _ | decide | omega | (dsimp only; omega)) u_25 (by rw [show (((P ++ [by_b 92]) ++ [by_b 120]) ++ [nu_d 97 (c0 / 16), nu_d 97 (c0 % 16)]) = (P ++ (mq sg c0)) from mq_3 f_2 f_8 (fun z => absurd z.1 (by omega)) (Or.inr f_68)] at hL_27; exact hL_27) hP9 hK9 hD9
      · skip
        have f_28 : 7 ≤ c0 := Nat.le_of_not_lt (fun z => c_28 (nI_lt (b := 7) z (by omega)))
        refine lv_iload_n hx hb d_Mo_quoted_31 rfl (lv_at hl 1 rfl) ?_
        refine lv_bipush (v := 13) hx hb d_Mo_quoted_32 (by decide) ?_
        refine lv_icmp_gt (tgt := 59) hx hb d_Mo_quoted_34 (by decide) (fun c_34 => ?_) (fun c_34 => ?_)
        · skip
          have f_34 : 13 < c0 := (nI_ltI (a := 13) (by omega) (by omega)).mp c_34
          refine lv_iload_n hx hb d_Mo_quoted_59 rfl (lv_at hl 1 rfl) ?_
          refine lv_bipush (v := 32) hx hb d_Mo_quoted_60 (by decide) ?_
          refine lv_icmp_lt (tgt := 71) hx hb d_Mo_quoted_62 (by decide) (fun c_62 => ?_) (fun c_62 => ?_)
          · skip
            have f_62 : c0 < 32 := (nI_ltI (b := 32) (by omega) (by omega)).mp c_62
            refine lv_aload_n hx hb d_Mo_quoted_71 rfl (lv_at hl 0 rfl) ?_
            refine lv_bipush (v := 92) hx hb d_Mo_quoted_72 (by decide) ?_
            have hPc := hP.sub (ws' := [(mo, .inr (8, [.int th, .int fd, .ref rt, .int mn, .ref rk, .ref rv, .ref rw, .ref ro, .int md, .ref rr, .int (nI P.length), .ref ra, .long pz, .int kc, .ref rc, .ref rl, .ref rb, .int la, .int ca])), (ra, .inl (cB, 16400, .inl fa))]) [0, 1] rfl
            have hKc := hK.sub (tys' := [(cB, .byte)]) [0] rfl
            have hDc := hD.sub (ws' := [(mo, .inr (8, [.int th, .int fd, .ref rt, .int mn, .ref rk, .ref rv, .ref rw, .ref ro, .int md, .ref rr, .int (nI P.length), .ref ra, .long pz, .int kc, .ref rc, .ref rl, .ref rb, .int la, .int ca])), (ra, .inl (cB, 16400, .inl fa))]) [0, 1] (by decide) rfl
            have hFc := va_free (wc := [(mo, .inr (8, [.int th, .int fd, .ref rt, .int mn, .ref rk, .ref rv, .ref rw, .ref ro, .int md, .ref rr, .int (nI P.length), .ref ra, .long pz, .int kc, .ref rc, .ref rl, .ref rb, .int la, .int ca])), (ra, .inl (cB, 16400, .inl fa))]) hD hS hA [0, 1] rfl
            refine zz_callv (va_runV (As := [.int 92]) (rest := []) ⟨hx, hb, hml, hown, hg⟩ (c_Mo_put l dC dI mo rt rk rv rw ro rr ra rc rl rb th fd mn md (nI P.length) pz kc la ca cB fa P 92 hLa (by (try simp only [List.length_append, List.length_cons, List.length_nil]); omega) s.heap.size) (cwV 1 hg (gi_V kw_863 kw_865 sw_16 kw_9 kw_866) rfl rfl rfl (by decide +kernel) ⟨Nat.le_of_ble_eq_true rfl, Nat.le_of_ble_eq_true rfl⟩) (zz_preV hPc hKc hDc _ (q0 := 0) (ci := 8) rfl rfl) rfl rfl hl.1 rfl (lv_room (Nat.le_of_ble_eq_true rfl)) d_Mo_quoted_74 ⟨Nat.le_of_ble_eq_true rfl, Nat.le_of_ble_eq_true rfl⟩) hS hFc (fun u H1 k9 p9 d9 => va_join (wr := []) hP hD [0, 1] [] rfl rfl (by decide) (by decide) k9 hFc p9 d9) (fun u H locs hw hP hD hK1 hS => ?_)
            obtain ⟨u_28, rfl⟩ : ∃ z, z = u := ⟨_, rfl⟩
            try dsimp only at hw
            have hP : va_P (dC, dI) vwCl [(mo, .inr (8, [.int th, .int fd, .ref rt, .int mn, .ref rk, .ref rv, .ref rw, .ref ro, .int md, .ref rr, .int (nI (P ++ [by_b 92]).length), .ref ra, .long pz, .int kc, .ref rc, .ref rl, .ref rb, .int la, .int ca])), (ra, .inl (cB, 16400, .inl u_28))] H := hP
            have hD : va_D A [(mo, .inr (8, [.int th, .int fd, .ref rt, .int mn, .ref rk, .ref rv, .ref rw, .ref ro, .int md, .ref rr, .int (nI (P ++ [by_b 92]).length), .ref ra, .long pz, .int kc, .ref rc, .ref rl, .ref rb, .int la, .int ca])), (ra, .inl (cB, 16400, .inl u_28))] := hD
            have hL_30 := hw
            refine lv_aload_n hx hb d_Mo_quoted_77 rfl (lv_at hl 0 rfl) ?_
            refine lv_bipush (v := 120) hx hb d_Mo_quoted_78 (by decide) ?_
            have hPc := hP.sub (ws' := [(mo, .inr (8, [.int th, .int fd, .ref rt, .int mn, .ref rk, .ref rv, .ref rw, .ref ro, .int md, .ref rr, .int (nI (P ++ [by_b 92]).length), .ref ra, .long pz, .int kc, .ref rc, .ref rl, .ref rb, .int la, .int ca])), (ra, .inl (cB, 16400, .inl u_28))]) [0, 1] rfl
            have hKc := hK.sub (tys' := [(cB, .byte)]) [0] rfl
            have hDc := hD.sub (ws' := [(mo, .inr (8, [.int th, .int fd, .ref rt, .int mn, .ref rk, .ref rv, .ref rw, .ref ro, .int md, .ref rr, .int (nI (P ++ [by_b 92]).length), .ref ra, .long pz, .int kc, .ref rc, .ref rl, .ref rb, .int la, .int ca])), (ra, .inl (cB, 16400, .inl u_28))]) [0, 1] (by decide) rfl
            have hFc := va_free (wc := [(mo, .inr (8, [.int th, .int fd, .ref rt, .int mn, .ref rk, .ref rv, .ref rw, .ref ro, .int md, .ref rr, .int (nI (P ++ [by_b 92]).length), .ref ra, .long pz, .int kc, .ref rc, .ref rl, .ref rb, .int la, .int ca])), (ra, .inl (cB, 16400, .inl u_28))]) hD hS hA [0, 1] rfl
            refine zz_callv (va_runV (As := [.int 120]) (rest := []) ⟨hx, hb, hml, hown, hg⟩ (c_Mo_put l dC dI mo rt rk rv rw ro rr ra rc rl rb th fd mn md (nI (P ++ [by_b 92]).length) pz kc la ca cB u_28 (P ++ [by_b 92]) 120 hL_30 (by (try simp only [List.length_append, List.length_cons, List.length_nil]); omega) H.size) (cwV 1 hg (gi_V kw_863 kw_865 sw_16 kw_9 kw_866) rfl rfl rfl (by decide +kernel) ⟨Nat.le_of_ble_eq_true rfl, Nat.le_of_ble_eq_true rfl⟩) (zz_preV hPc hKc hDc _ (q0 := 0) (ci := 8) rfl rfl) rfl rfl hl.1 rfl (lv_room (Nat.le_of_ble_eq_true rfl)) d_Mo_quoted_80 ⟨Nat.le_of_ble_eq_true rfl, Nat.le_of_ble_eq_true rfl⟩) hS hFc (fun u H1 k9 p9 d9 => va_join (wr := []) hP hD [0, 1] [] rfl rfl (by decide) (by decide) k9 hFc p9 d9) (fun u H locs hw hP hD hK1 hS => ?_)
            obtain ⟨u_31, rfl⟩ : ∃ z, z = u := ⟨_, rfl⟩
            try dsimp only at hw
            have hP : va_P (dC, dI) vwCl [(mo, .inr (8, [.int th, .int fd, .ref rt, .int mn, .ref rk, .ref rv, .ref rw, .ref ro, .int md, .ref rr, .int (nI ((P ++ [by_b 92]) ++ [by_b 120]).length), .ref ra, .long pz, .int kc, .ref rc, .ref rl, .ref rb, .int la, .int ca])), (ra, .inl (cB, 16400, .inl u_31))] H := hP
            have hD : va_D A [(mo, .inr (8, [.int th, .int fd, .ref rt, .int mn, .ref rk, .ref rv, .ref rw, .ref ro, .int md, .ref rr, .int (nI ((P ++ [by_b 92]) ++ [by_b 120]).length), .ref ra, .long pz, .int kc, .ref rc, .ref rl, .ref rb, .int la, .int ca])), (ra, .inl (cB, 16400, .inl u_31))] := hD
            have hL_33 := hw
            refine lv_aload_n hx hb d_Mo_quoted_83 rfl (lv_at hl 0 rfl) ?_
            refine lv_iload_n hx hb d_Mo_quoted_84 rfl (lv_at hl 1 rfl) ?_
            have hPc := hP.sub (ws' := [(mo, .inr (8, [.int th, .int fd, .ref rt, .int mn, .ref rk, .ref rv, .ref rw, .ref ro, .int md, .ref rr, .int (nI ((P ++ [by_b 92]) ++ [by_b 120]).length), .ref ra, .long pz, .int kc, .ref rc, .ref rl, .ref rb, .int la, .int ca])), (ra, .inl (cB, 16400, .inl u_31))]) [0, 1] rfl
            have hKc := hK.sub (tys' := [(cB, .byte)]) [0] rfl
            have hDc := hD.sub (ws' := [(mo, .inr (8, [.int th, .int fd, .ref rt, .int mn, .ref rk, .ref rv, .ref rw, .ref ro, .int md, .ref rr, .int (nI ((P ++ [by_b 92]) ++ [by_b 120]).length), .ref ra, .long pz, .int kc, .ref rc, .ref rl, .ref rb, .int la, .int ca])), (ra, .inl (cB, 16400, .inl u_31))]) [0, 1] (by decide) rfl
            have hFc := va_free (wc := [(mo, .inr (8, [.int th, .int fd, .ref rt, .int mn, .ref rk, .ref rv, .ref rw, .ref ro, .int md, .ref rr, .int (nI ((P ++ [by_b 92]) ++ [by_b 120]).length), .ref ra, .long pz, .int kc, .ref rc, .ref rl, .ref rb, .int la, .int ca])), (ra, .inl (cB, 16400, .inl u_31))]) hD hS hA [0, 1] rfl
            refine zz_callv (va_runV (As := [.int (nI c0)]) (rest := []) ⟨hx, hb, hml, hown, hg⟩ (c_Mo_hex l dC dI mo rt rk rv rw ro rr ra rc rl rb th fd mn md (nI ((P ++ [by_b 92]) ++ [by_b 120]).length) pz kc la ca cB u_31 ((P ++ [by_b 92]) ++ [by_b 120]) c0 hL_33 (by (try simp only [List.length_append, List.length_cons, List.length_nil]); omega) (by omega) H.size) (cwV 1 hg (gi_V kw_886 kw_888 sw_20 kw_9 kw_889) rfl rfl rfl (by decide +kernel) ⟨Nat.le_of_ble_eq_true rfl, Nat.le_of_ble_eq_true rfl⟩) (zz_preV hPc hKc hDc _ (q0 := 0) (ci := 8) rfl rfl) rfl rfl hl.1 rfl (lv_room (Nat.le_of_ble_eq_true rfl)) d_Mo_quoted_85 ⟨Nat.le_of_ble_eq_true rfl, Nat.le_of_ble_eq_true rfl⟩) hS hFc (fun u H1 k9 p9 d9 => va_join (wr := []) hP hD [0, 1] [] rfl rfl (by decide) (by decide) k9 hFc p9 d9) (fun u H locs hw hP hD hK1 hS => ?_)
            obtain ⟨u_34, rfl⟩ : ∃ z, z = u := ⟨_, rfl⟩
            try dsimp only at hw
            have hP : va_P (dC, dI) vwCl [(mo, .inr (8, [.int th, .int fd, .ref rt, .int mn, .ref rk, .ref rv, .ref rw, .ref ro, .int md, .ref rr, .int (nI (((P ++ [by_b 92]) ++ [by_b 120]) ++ [nu_d 97 (c0 / 16), nu_d 97 (c0 % 16)]).length), .ref ra, .long pz, .int kc, .ref rc, .ref rl, .ref rb, .int la, .int ca])), (ra, .inl (cB, 16400, .inl u_34))] H := hP
            have hD : va_D A [(mo, .inr (8, [.int th, .int fd, .ref rt, .int mn, .ref rk, .ref rv, .ref rw, .ref ro, .int md, .ref rr, .int (nI (((P ++ [by_b 92]) ++ [by_b 120]) ++ [nu_d 97 (c0 / 16), nu_d 97 (c0 % 16)]).length), .ref ra, .long pz, .int kc, .ref rc, .ref rl, .ref rb, .int la, .int ca])), (ra, .inl (cB, 16400, .inl u_34))] := hD
            have hL_36 := hw
            refine lv_goto (tgt := 96) hx hb d_Mo_quoted_88 (by decide) ?_
            have hP9 := hP.sub (ws' := [(mo, .inr (8, [.int th, .int fd, .ref rt, .int mn, .ref rk, .ref rv, .ref rw, .ref ro, .int md, .ref rr, .int (nI (((P ++ [by_b 92]) ++ [by_b 120]) ++ [nu_d 97 (c0 / 16), nu_d 97 (c0 % 16)]).length), .ref ra, .long pz, .int kc, .ref rc, .ref rl, .ref rb, .int la, .int ca])), (ra, .inl (cB, 16400, .inl u_34))]) [0, 1] rfl
            have hD9 := hD.sub (ws' := [(mo, .inr (8, [.int th, .int fd, .ref rt, .int mn, .ref rk, .ref rv, .ref rw, .ref ro, .int md, .ref rr, .int (nI (((P ++ [by_b 92]) ++ [by_b 120]) ++ [nu_d 97 (c0 / 16), nu_d 97 (c0 % 16)]).length), .ref ra, .long pz, .int kc, .ref rc, .ref rl, .ref rb, .int la, .int ca])), (ra, .inl (cB, 16400, .inl u_34))]) [0, 1] (by decide) rfl
            have hK9 := hK.sub (tys' := [(cB, .byte)]) [0] rfl
            rw [show (((P ++ [by_b 92]) ++ [by_b 120]) ++ [nu_d 97 (c0 / 16), nu_d 97 (c0 % 16)]) = (P ++ (mq sg c0)) from mq_3 f_2 f_8 (fun z => absurd z.2 (by omega)) (Or.inl f_62)] at hP9 hD9
            exact zz_vret hx hb hr hlocks d_Mo_quoted_96 hS (by first | exact Nat.le_refl _ | decide | omega | (dsimp only; omega)) (by first | exact Nat.le_refl _ | decide | omega | (dsimp only; omega)) u_34 (by rw [show (((P ++ [by_b 92]) ++ [by_b 120]) ++ [nu_d 97 (c0 / 16), nu_d 97 (c0 % 16)]) = (P ++ (mq sg c0)) from mq_3 f_2 f_8 (fun z => absurd z.2 (by omega)) (Or.inl f_62)] at hL_36; exact hL_36) hP9 hK9 hD9
          · skip
            have f_62 : 32 ≤ c0 := Nat.le_of_not_lt (fun z => c_62 (nI_lt (b := 32) z (by omega)))
            refine lv_iload_n hx hb d_Mo_quoted_65 rfl (lv_at hl 1 rfl) ?_
            refine lv_bipush (v := 127) hx hb d_Mo_quoted_66 (by decide) ?_
            refine lv_icmp_ne (tgt := 91) hx hb d_Mo_quoted_68 (by decide) (fun c_68 => ?_) (fun c_68 => ?_)
            · skip
              have f_68 : c0 ≠ 127 := nI_ne (b := 127) c_68
              refine lv_aload_n hx hb d_Mo_quoted_91 rfl (lv_at hl 0 rfl) ?_
              refine lv_iload_n hx hb d_Mo_quoted_92 rfl (lv_at hl 1 rfl) ?_
              have hPc := hP.sub (ws' := [(mo, .inr (8, [.int th, .int fd, .ref rt, .int mn, .ref rk, .ref rv, .ref rw, .ref ro, .int md, .ref rr, .int (nI P.length), .ref ra, .long pz, .int kc, .ref rc, .ref rl, .ref rb, .int la, .int ca])), (ra, .inl (cB, 16400, .inl fa))]) [0, 1] rfl
              have hKc := hK.sub (tys' := [(cB, .byte)]) [0] rfl
              have hDc := hD.sub (ws' := [(mo, .inr (8, [.int th, .int fd, .ref rt, .int mn, .ref rk, .ref rv, .ref rw, .ref ro, .int md, .ref rr, .int (nI P.length), .ref ra, .long pz, .int kc, .ref rc, .ref rl, .ref rb, .int la, .int ca])), (ra, .inl (cB, 16400, .inl fa))]) [0, 1] (by decide) rfl
              have hFc := va_free (wc := [(mo, .inr (8, [.int th, .int fd, .ref rt, .int mn, .ref rk, .ref rv, .ref rw, .ref ro, .int md, .ref rr, .int (nI P.length), .ref ra, .long pz, .int kc, .ref rc, .ref rl, .ref rb, .int la, .int ca])), (ra, .inl (cB, 16400, .inl fa))]) hD hS hA [0, 1] rfl
              refine zz_callv (va_runV (As := [.int (nI c0)]) (rest := []) ⟨hx, hb, hml, hown, hg⟩ (c_Mo_utf l dC dI mo rt rk rv rw ro rr ra rc rl rb th fd mn md (nI P.length) pz kc la ca cB fa P c0 hLa (by (try simp only [List.length_append, List.length_cons, List.length_nil]); omega) hc0 s.heap.size) (cwV 1 hg (gi_V kw_890 kw_892 sw_21 kw_9 kw_893) rfl rfl rfl (by decide +kernel) ⟨Nat.le_of_ble_eq_true rfl, Nat.le_of_ble_eq_true rfl⟩) (zz_preV hPc hKc hDc _ (q0 := 0) (ci := 8) rfl rfl) rfl rfl hl.1 rfl (lv_room (Nat.le_of_ble_eq_true rfl)) d_Mo_quoted_93 ⟨Nat.le_of_ble_eq_true rfl, Nat.le_of_ble_eq_true rfl⟩) hS hFc (fun u H1 k9 p9 d9 => va_join (wr := []) hP hD [0, 1] [] rfl rfl (by decide) (by decide) k9 hFc p9 d9) (fun u H locs hw hP hD hK1 hS => ?_)
              obtain ⟨u_37, rfl⟩ : ∃ z, z = u := ⟨_, rfl⟩
              try dsimp only at hw
              have hP : va_P (dC, dI) vwCl [(mo, .inr (8, [.int th, .int fd, .ref rt, .int mn, .ref rk, .ref rv, .ref rw, .ref ro, .int md, .ref rr, .int (nI (P ++ (ut_8 c0)).length), .ref ra, .long pz, .int kc, .ref rc, .ref rl, .ref rb, .int la, .int ca])), (ra, .inl (cB, 16400, .inl u_37))] H := hP
              have hD : va_D A [(mo, .inr (8, [.int th, .int fd, .ref rt, .int mn, .ref rk, .ref rv, .ref rw, .ref ro, .int md, .ref rr, .int (nI (P ++ (ut_8 c0)).length), .ref ra, .long pz, .int kc, .ref rc, .ref rl, .ref rb, .int la, .int ca])), (ra, .inl (cB, 16400, .inl u_37))] := hD
              have hL_39 := hw
              have hP9 := hP.sub (ws' := [(mo, .inr (8, [.int th, .int fd, .ref rt, .int mn, .ref rk, .ref rv, .ref rw, .ref ro, .int md, .ref rr, .int (nI (P ++ (ut_8 c0)).length), .ref ra, .long pz, .int kc, .ref rc, .ref rl, .ref rb, .int la, .int ca])), (ra, .inl (cB, 16400, .inl u_37))]) [0, 1] rfl
              have hD9 := hD.sub (ws' := [(mo, .inr (8, [.int th, .int fd, .ref rt, .int mn, .ref rk, .ref rv, .ref rw, .ref ro, .int md, .ref rr, .int (nI (P ++ (ut_8 c0)).length), .ref ra, .long pz, .int kc, .ref rc, .ref rl, .ref rb, .int la, .int ca])), (ra, .inl (cB, 16400, .inl u_37))]) [0, 1] (by decide) rfl
              have hK9 := hK.sub (tys' := [(cB, .byte)]) [0] rfl
              rw [show (P ++ (ut_8 c0)) = (P ++ (mq sg c0)) from mq_4 f_2 f_8 (Nat.not_lt.mpr f_62) f_68] at hP9 hD9
              exact zz_vret hx hb hr hlocks d_Mo_quoted_96 hS (by first | exact Nat.le_refl _ | decide | omega | (dsimp only; omega)) (by first | exact Nat.le_refl _ | decide | omega | (dsimp only; omega)) u_37 (by rw [show (P ++ (ut_8 c0)) = (P ++ (mq sg c0)) from mq_4 f_2 f_8 (Nat.not_lt.mpr f_62) f_68] at hL_39; exact hL_39) hP9 hK9 hD9
            · skip
              have f_68 : c0 = 127 := nI_e1 (b := 127) c_68 (by omega) (by omega)
              refine lv_aload_n hx hb d_Mo_quoted_71 rfl (lv_at hl 0 rfl) ?_
              refine lv_bipush (v := 92) hx hb d_Mo_quoted_72 (by decide) ?_
              have hPc := hP.sub (ws' := [(mo, .inr (8, [.int th, .int fd, .ref rt, .int mn, .ref rk, .ref rv, .ref rw, .ref ro, .int md, .ref rr, .int (nI P.length), .ref ra, .long pz, .int kc, .ref rc, .ref rl, .ref rb, .int la, .int ca])), (ra, .inl (cB, 16400, .inl fa))]) [0, 1] rfl
              have hKc := hK.sub (tys' := [(cB, .byte)]) [0] rfl
              have hDc := hD.sub (ws' := [(mo, .inr (8, [.int th, .int fd, .ref rt, .int mn, .ref rk, .ref rv, .ref rw, .ref ro, .int md, .ref rr, .int (nI P.length), .ref ra, .long pz, .int kc, .ref rc, .ref rl, .ref rb, .int la, .int ca])), (ra, .inl (cB, 16400, .inl fa))]) [0, 1] (by decide) rfl
              have hFc := va_free (wc := [(mo, .inr (8, [.int th, .int fd, .ref rt, .int mn, .ref rk, .ref rv, .ref rw, .ref ro, .int md, .ref rr, .int (nI P.length), .ref ra, .long pz, .int kc, .ref rc, .ref rl, .ref rb, .int la, .int ca])), (ra, .inl (cB, 16400, .inl fa))]) hD hS hA [0, 1] rfl
              refine zz_callv (va_runV (As := [.int 92]) (rest := []) ⟨hx, hb, hml, hown, hg⟩ (c_Mo_put l dC dI mo rt rk rv rw ro rr ra rc rl rb th fd mn md (nI P.length) pz kc la ca cB fa P 92 hLa (by (try simp only [List.length_append, List.length_cons, List.length_nil]); omega) s.heap.size) (cwV 1 hg (gi_V kw_863 kw_865 sw_16 kw_9 kw_866) rfl rfl rfl (by decide +kernel) ⟨Nat.le_of_ble_eq_true rfl, Nat.le_of_ble_eq_true rfl⟩) (zz_preV hPc hKc hDc _ (q0 := 0) (ci := 8) rfl rfl) rfl rfl hl.1 rfl (lv_room (Nat.le_of_ble_eq_true rfl)) d_Mo_quoted_74 ⟨Nat.le_of_ble_eq_true rfl, Nat.le_of_ble_eq_true rfl⟩) hS hFc (fun u H1 k9 p9 d9 => va_join (wr := []) hP hD [0, 1] [] rfl rfl (by decide) (by decide) k9 hFc p9 d9) (fun u H locs hw hP hD hK1 hS => ?_)
              obtain ⟨u_40, rfl⟩ : ∃ z, z = u := ⟨_, rfl⟩
              try dsimp only at hw
              have hP : va_P (dC, dI) vwCl [(mo, .inr (8, [.int th, .int fd, .ref rt, .int mn, .ref rk, .ref rv, .ref rw, .ref ro, .int md, .ref rr, .int (nI (P ++ [by_b 92]).length), .ref ra, .long pz, .int kc, .ref rc, .ref rl, .ref rb, .int la, .int ca])), (ra, .inl (cB, 16400, .inl u_40))] H := hP
              have hD : va_D A [(mo, .inr (8, [.int th, .int fd, .ref rt, .int mn, .ref rk, .ref rv, .ref rw, .ref ro, .int md, .ref rr, .int (nI (P ++ [by_b 92]).length), .ref ra, .long pz, .int kc, .ref rc, .ref rl, .ref rb, .int la, .int ca])), (ra, .inl (cB, 16400, .inl u_40))] := hD
              have hL_42 := hw
              refine lv_aload_n hx hb d_Mo_quoted_77 rfl (lv_at hl 0 rfl) ?_
              refine lv_bipush (v := 120) hx hb d_Mo_quoted_78 (by decide) ?_
              have hPc := hP.sub (ws' := [(mo, .inr (8, [.int th, .int fd, .ref rt, .int mn, .ref rk, .ref rv, .ref rw, .ref ro, .int md, .ref rr, .int (nI (P ++ [by_b 92]).length), .ref ra, .long pz, .int kc, .ref rc, .ref rl, .ref rb, .int la, .int ca])), (ra, .inl (cB, 16400, .inl u_40))]) [0, 1] rfl
              have hKc := hK.sub (tys' := [(cB, .byte)]) [0] rfl
              have hDc := hD.sub (ws' := [(mo, .inr (8, [.int th, .int fd, .ref rt, .int mn, .ref rk, .ref rv, .ref rw, .ref ro, .int md, .ref rr, .int (nI (P ++ [by_b 92]).length), .ref ra, .long pz, .int kc, .ref rc, .ref rl, .ref rb, .int la, .int ca])), (ra, .inl (cB, 16400, .inl u_40))]) [0, 1] (by decide) rfl
              have hFc := va_free (wc := [(mo, .inr (8, [.int th, .int fd, .ref rt, .int mn, .ref rk, .ref rv, .ref rw, .ref ro, .int md, .ref rr, .int (nI (P ++ [by_b 92]).length), .ref ra, .long pz, .int kc, .ref rc, .ref rl, .ref rb, .int la, .int ca])), (ra, .inl (cB, 16400, .inl u_40))]) hD hS hA [0, 1] rfl
              refine zz_callv (va_runV (As := [.int 120]) (rest := []) ⟨hx, hb, hml, hown, hg⟩ (c_Mo_put l dC dI mo rt rk rv rw ro rr ra rc rl rb th fd mn md (nI (P ++ [by_b 92]).length) pz kc la ca cB u_40 (P ++ [by_b 92]) 120 hL_42 (by (try simp only [List.length_append, List.length_cons, List.length_nil]); omega) H.size) (cwV 1 hg (gi_V kw_863 kw_865 sw_16 kw_9 kw_866) rfl rfl rfl (by decide +kernel) ⟨Nat.le_of_ble_eq_true rfl, Nat.le_of_ble_eq_true rfl⟩) (zz_preV hPc hKc hDc _ (q0 := 0) (ci := 8) rfl rfl) rfl rfl hl.1 rfl (lv_room (Nat.le_of_ble_eq_true rfl)) d_Mo_quoted_80 ⟨Nat.le_of_ble_eq_true rfl, Nat.le_of_ble_eq_true rfl⟩) hS hFc (fun u H1 k9 p9 d9 => va_join (wr := []) hP hD [0, 1] [] rfl rfl (by decide) (by decide) k9 hFc p9 d9) (fun u H locs hw hP hD hK1 hS => ?_)
              obtain ⟨u_43, rfl⟩ : ∃ z, z = u := ⟨_, rfl⟩
              try dsimp only at hw
              have hP : va_P (dC, dI) vwCl [(mo, .inr (8, [.int th, .int fd, .ref rt, .int mn, .ref rk, .ref rv, .ref rw, .ref ro, .int md, .ref rr, .int (nI ((P ++ [by_b 92]) ++ [by_b 120]).length), .ref ra, .long pz, .int kc, .ref rc, .ref rl, .ref rb, .int la, .int ca])), (ra, .inl (cB, 16400, .inl u_43))] H := hP
              have hD : va_D A [(mo, .inr (8, [.int th, .int fd, .ref rt, .int mn, .ref rk, .ref rv, .ref rw, .ref ro, .int md, .ref rr, .int (nI ((P ++ [by_b 92]) ++ [by_b 120]).length), .ref ra, .long pz, .int kc, .ref rc, .ref rl, .ref rb, .int la, .int ca])), (ra, .inl (cB, 16400, .inl u_43))] := hD
              have hL_45 := hw
              refine lv_aload_n hx hb d_Mo_quoted_83 rfl (lv_at hl 0 rfl) ?_
              refine lv_iload_n hx hb d_Mo_quoted_84 rfl (lv_at hl 1 rfl) ?_
              have hPc := hP.sub (ws' := [(mo, .inr (8, [.int th, .int fd, .ref rt, .int mn, .ref rk, .ref rv, .ref rw, .ref ro, .int md, .ref rr, .int (nI ((P ++ [by_b 92]) ++ [by_b 120]).length), .ref ra, .long pz, .int kc, .ref rc, .ref rl, .ref rb, .int la, .int ca])), (ra, .inl (cB, 16400, .inl u_43))]) [0, 1] rfl
              have hKc := hK.sub (tys' := [(cB, .byte)]) [0] rfl
              have hDc := hD.sub (ws' := [(mo, .inr (8, [.int th, .int fd, .ref rt, .int mn, .ref rk, .ref rv, .ref rw, .ref ro, .int md, .ref rr, .int (nI ((P ++ [by_b 92]) ++ [by_b 120]).length), .ref ra, .long pz, .int kc, .ref rc, .ref rl, .ref rb, .int la, .int ca])), (ra, .inl (cB, 16400, .inl u_43))]) [0, 1] (by decide) rfl
              have hFc := va_free (wc := [(mo, .inr (8, [.int th, .int fd, .ref rt, .int mn, .ref rk, .ref rv, .ref rw, .ref ro, .int md, .ref rr, .int (nI ((P ++ [by_b 92]) ++ [by_b 120]).length), .ref ra, .long pz, .int kc, .ref rc, .ref rl, .ref rb, .int la, .int ca])), (ra, .inl (cB, 16400, .inl u_43))]) hD hS hA [0, 1] rfl
              refine zz_callv (va_runV (As := [.int (nI c0)]) (rest := []) ⟨hx, hb, hml, hown, hg⟩ (c_Mo_hex l dC dI mo rt rk rv rw ro rr ra rc rl rb th fd mn md (nI ((P ++ [by_b 92]) ++ [by_b 120]).length) pz kc la ca cB u_43 ((P ++ [by_b 92]) ++ [by_b 120]) c0 hL_45 (by (try simp only [List.length_append, List.length_cons, List.length_nil]); omega) (by omega) H.size) (cwV 1 hg (gi_V kw_886 kw_888 sw_20 kw_9 kw_889) rfl rfl rfl (by decide +kernel) ⟨Nat.le_of_ble_eq_true rfl, Nat.le_of_ble_eq_true rfl⟩) (zz_preV hPc hKc hDc _ (q0 := 0) (ci := 8) rfl rfl) rfl rfl hl.1 rfl (lv_room (Nat.le_of_ble_eq_true rfl)) d_Mo_quoted_85 ⟨Nat.le_of_ble_eq_true rfl, Nat.le_of_ble_eq_true rfl⟩) hS hFc (fun u H1 k9 p9 d9 => va_join (wr := []) hP hD [0, 1] [] rfl rfl (by decide) (by decide) k9 hFc p9 d9) (fun u H locs hw hP hD hK1 hS => ?_)
              obtain ⟨u_46, rfl⟩ : ∃ z, z = u := ⟨_, rfl⟩
              try dsimp only at hw
              have hP : va_P (dC, dI) vwCl [(mo, .inr (8, [.int th, .int fd, .ref rt, .int mn, .ref rk, .ref rv, .ref rw, .ref ro, .int md, .ref rr, .int (nI (((P ++ [by_b 92]) ++ [by_b 120]) ++ [nu_d 97 (c0 / 16), nu_d 97 (c0 % 16)]).length), .ref ra, .long pz, .int kc, .ref rc, .ref rl, .ref rb, .int la, .int ca])), (ra, .inl (cB, 16400, .inl u_46))] H := hP
              have hD : va_D A [(mo, .inr (8, [.int th, .int fd, .ref rt, .int mn, .ref rk, .ref rv, .ref rw, .ref ro, .int md, .ref rr, .int (nI (((P ++ [by_b 92]) ++ [by_b 120]) ++ [nu_d 97 (c0 / 16), nu_d 97 (c0 % 16)]).length), .ref ra, .long pz, .int kc, .ref rc, .ref rl, .ref rb, .int la, .int ca])), (ra, .inl (cB, 16400, .inl u_46))] := hD
              have hL_48 := hw
              refine lv_goto (tgt := 96) hx hb d_Mo_quoted_88 (by decide) ?_
              have hP9 := hP.sub (ws' := [(mo, .inr (8, [.int th, .int fd, .ref rt, .int mn, .ref rk, .ref rv, .ref rw, .ref ro, .int md, .ref rr, .int (nI (((P ++ [by_b 92]) ++ [by_b 120]) ++ [nu_d 97 (c0 / 16), nu_d 97 (c0 % 16)]).length), .ref ra, .long pz, .int kc, .ref rc, .ref rl, .ref rb, .int la, .int ca])), (ra, .inl (cB, 16400, .inl u_46))]) [0, 1] rfl
              have hD9 := hD.sub (ws' := [(mo, .inr (8, [.int th, .int fd, .ref rt, .int mn, .ref rk, .ref rv, .ref rw, .ref ro, .int md, .ref rr, .int (nI (((P ++ [by_b 92]) ++ [by_b 120]) ++ [nu_d 97 (c0 / 16), nu_d 97 (c0 % 16)]).length), .ref ra, .long pz, .int kc, .ref rc, .ref rl, .ref rb, .int la, .int ca])), (ra, .inl (cB, 16400, .inl u_46))]) [0, 1] (by decide) rfl
              have hK9 := hK.sub (tys' := [(cB, .byte)]) [0] rfl
              rw [show (((P ++ [by_b 92]) ++ [by_b 120]) ++ [nu_d 97 (c0 / 16), nu_d 97 (c0 % 16)]) = (P ++ (mq sg c0)) from mq_3 f_2 f_8 (fun z => absurd z.2 (by omega)) (Or.inr f_68)] at hP9 hD9
              exact zz_vret hx hb hr hlocks d_Mo_quoted_96 hS (by first | exact Nat.le_refl _ | decide | omega | (dsimp only; omega)) (by first | exact Nat.le_refl _ | decide | omega | (dsimp only; omega)) u_46 (by rw [show (((P ++ [by_b 92]) ++ [by_b 120]) ++ [nu_d 97 (c0 / 16), nu_d 97 (c0 % 16)]) = (P ++ (mq sg c0)) from mq_3 f_2 f_8 (fun z => absurd z.2 (by omega)) (Or.inr f_68)] at hL_48; exact hL_48) hP9 hK9 hD9
        · skip
          have f_34 : c0 ≤ 13 := Nat.le_of_not_lt (fun z => c_34 (nI_lt (a := 13) z (by omega)))
          refine lv_aload_n hx hb d_Mo_quoted_37 rfl (lv_at hl 0 rfl) ?_
          refine lv_bipush (v := 92) hx hb d_Mo_quoted_38 (by decide) ?_
          have hPc := hP.sub (ws' := [(mo, .inr (8, [.int th, .int fd, .ref rt, .int mn, .ref rk, .ref rv, .ref rw, .ref ro, .int md, .ref rr, .int (nI P.length), .ref ra, .long pz, .int kc, .ref rc, .ref rl, .ref rb, .int la, .int ca])), (ra, .inl (cB, 16400, .inl fa))]) [0, 1] rfl
          have hKc := hK.sub (tys' := [(cB, .byte)]) [0] rfl
          have hDc := hD.sub (ws' := [(mo, .inr (8, [.int th, .int fd, .ref rt, .int mn, .ref rk, .ref rv, .ref rw, .ref ro, .int md, .ref rr, .int (nI P.length), .ref ra, .long pz, .int kc, .ref rc, .ref rl, .ref rb, .int la, .int ca])), (ra, .inl (cB, 16400, .inl fa))]) [0, 1] (by decide) rfl
          have hFc := va_free (wc := [(mo, .inr (8, [.int th, .int fd, .ref rt, .int mn, .ref rk, .ref rv, .ref rw, .ref ro, .int md, .ref rr, .int (nI P.length), .ref ra, .long pz, .int kc, .ref rc, .ref rl, .ref rb, .int la, .int ca])), (ra, .inl (cB, 16400, .inl fa))]) hD hS hA [0, 1] rfl
          refine zz_callv (va_runV (As := [.int 92]) (rest := []) ⟨hx, hb, hml, hown, hg⟩ (c_Mo_put l dC dI mo rt rk rv rw ro rr ra rc rl rb th fd mn md (nI P.length) pz kc la ca cB fa P 92 hLa (by (try simp only [List.length_append, List.length_cons, List.length_nil]); omega) s.heap.size) (cwV 1 hg (gi_V kw_863 kw_865 sw_16 kw_9 kw_866) rfl rfl rfl (by decide +kernel) ⟨Nat.le_of_ble_eq_true rfl, Nat.le_of_ble_eq_true rfl⟩) (zz_preV hPc hKc hDc _ (q0 := 0) (ci := 8) rfl rfl) rfl rfl hl.1 rfl (lv_room (Nat.le_of_ble_eq_true rfl)) d_Mo_quoted_40 ⟨Nat.le_of_ble_eq_true rfl, Nat.le_of_ble_eq_true rfl⟩) hS hFc (fun u H1 k9 p9 d9 => va_join (wr := []) hP hD [0, 1] [] rfl rfl (by decide) (by decide) k9 hFc p9 d9) (fun u H locs hw hP hD hK1 hS => ?_)
          obtain ⟨u_49, rfl⟩ : ∃ z, z = u := ⟨_, rfl⟩
          try dsimp only at hw
          have hP : va_P (dC, dI) vwCl [(mo, .inr (8, [.int th, .int fd, .ref rt, .int mn, .ref rk, .ref rv, .ref rw, .ref ro, .int md, .ref rr, .int (nI (P ++ [by_b 92]).length), .ref ra, .long pz, .int kc, .ref rc, .ref rl, .ref rb, .int la, .int ca])), (ra, .inl (cB, 16400, .inl u_49))] H := hP
          have hD : va_D A [(mo, .inr (8, [.int th, .int fd, .ref rt, .int mn, .ref rk, .ref rv, .ref rw, .ref ro, .int md, .ref rr, .int (nI (P ++ [by_b 92]).length), .ref ra, .long pz, .int kc, .ref rc, .ref rl, .ref rb, .int la, .int ca])), (ra, .inl (cB, 16400, .inl u_49))] := hD
          have hL_51 := hw
          refine lv_aload_n hx hb d_Mo_quoted_43 rfl (lv_at hl 0 rfl) ?_
          refine va_ldcS (q := ad 20) hx hb hown (show vk_R "TextForgeModel" 99 "abtnvfr" (ad 20) s from (hX.2.1 20 (by decide)).1) d_Mo_quoted_44 ?_
          refine lv_iload_n hx hb d_Mo_quoted_46 rfl (lv_at hl 1 rfl) ?_
          refine lv_bipush (v := 7) hx hb d_Mo_quoted_47 (by decide) ?_
          refine lv_isub hx hb d_Mo_quoted_49 ?_
          rw [show nI c0 - 7 = nI (c0 - 7) from pk_sub (b := 7) f_28]
          have hPc := hP.sub (ws' := []) [] rfl
          have hKc := hK.sub (tys' := []) [] rfl
          refine vp_callSi (W.runV (As := [.int (nI (c0 - 7))]) (rest := [.ref mo]) ⟨hx, hb, hml, hown, hg⟩ (c_St_charAt l dC dI ad 20 (c0 - 7) (by decide) (show c0 - 7 < (kxB 20).length from Nat.lt_of_le_of_lt (show c0 - 7 ≤ 6 by omega) (by decide))) (cwV 1 hg (gi_V kw_899 kw_315 kw_316 kw_16 kw_317) rfl rfl rfl (by decide +kernel) ⟨Nat.le_of_ble_eq_true rfl, Nat.le_of_ble_eq_true rfl⟩) (zy_prSt (by decide) hX hS hPc hKc _) rfl rfl hl.1 rfl (lv_room (Nat.le_of_ble_eq_true rfl)) d_Mo_quoted_50 ⟨Nat.le_of_ble_eq_true rfl, Nat.le_of_ble_eq_true rfl⟩) (fun r_52 hr_52 => ?_)
          subst hr_52
          have hPc := hP.sub (ws' := [(mo, .inr (8, [.int th, .int fd, .ref rt, .int mn, .ref rk, .ref rv, .ref rw, .ref ro, .int md, .ref rr, .int (nI (P ++ [by_b 92]).length), .ref ra, .long pz, .int kc, .ref rc, .ref rl, .ref rb, .int la, .int ca])), (ra, .inl (cB, 16400, .inl u_49))]) [0, 1] rfl
          have hKc := hK.sub (tys' := [(cB, .byte)]) [0] rfl
          have hDc := hD.sub (ws' := [(mo, .inr (8, [.int th, .int fd, .ref rt, .int mn, .ref rk, .ref rv, .ref rw, .ref ro, .int md, .ref rr, .int (nI (P ++ [by_b 92]).length), .ref ra, .long pz, .int kc, .ref rc, .ref rl, .ref rb, .int la, .int ca])), (ra, .inl (cB, 16400, .inl u_49))]) [0, 1] (by decide) rfl
          have hFc := va_free (wc := [(mo, .inr (8, [.int th, .int fd, .ref rt, .int mn, .ref rk, .ref rv, .ref rw, .ref ro, .int md, .ref rr, .int (nI (P ++ [by_b 92]).length), .ref ra, .long pz, .int kc, .ref rc, .ref rl, .ref rb, .int la, .int ca])), (ra, .inl (cB, 16400, .inl u_49))]) hD hS hA [0, 1] rfl
          refine zz_callv (va_runV (As := [.int (nI ((kxB 20).getD (c0 - 7) 0))]) (rest := []) ⟨hx, hb, hml, hown, hg⟩ (c_Mo_put l dC dI mo rt rk rv rw ro rr ra rc rl rb th fd mn md (nI (P ++ [by_b 92]).length) pz kc la ca cB u_49 (P ++ [by_b 92]) (nI ((kxB 20).getD (c0 - 7) 0)) hL_51 (by (try simp only [List.length_append, List.length_cons, List.length_nil]); omega) H.size) (cwV 1 hg (gi_V kw_863 kw_865 sw_16 kw_9 kw_866) rfl rfl rfl (by decide +kernel) ⟨Nat.le_of_ble_eq_true rfl, Nat.le_of_ble_eq_true rfl⟩) (zz_preV hPc hKc hDc _ (q0 := 0) (ci := 8) rfl rfl) rfl rfl hl.1 rfl (lv_room (Nat.le_of_ble_eq_true rfl)) d_Mo_quoted_53 ⟨Nat.le_of_ble_eq_true rfl, Nat.le_of_ble_eq_true rfl⟩) hS hFc (fun u H1 k9 p9 d9 => va_join (wr := []) hP hD [0, 1] [] rfl rfl (by decide) (by decide) k9 hFc p9 d9) (fun u H locs hw hP hD hK1 hS => ?_)
          obtain ⟨u_53, rfl⟩ : ∃ z, z = u := ⟨_, rfl⟩
          try dsimp only at hw
          have hP : va_P (dC, dI) vwCl [(mo, .inr (8, [.int th, .int fd, .ref rt, .int mn, .ref rk, .ref rv, .ref rw, .ref ro, .int md, .ref rr, .int (nI ((P ++ [by_b 92]) ++ [by_b (nI ((kxB 20).getD (c0 - 7) 0))]).length), .ref ra, .long pz, .int kc, .ref rc, .ref rl, .ref rb, .int la, .int ca])), (ra, .inl (cB, 16400, .inl u_53))] H := hP
          have hD : va_D A [(mo, .inr (8, [.int th, .int fd, .ref rt, .int mn, .ref rk, .ref rv, .ref rw, .ref ro, .int md, .ref rr, .int (nI ((P ++ [by_b 92]) ++ [by_b (nI ((kxB 20).getD (c0 - 7) 0))]).length), .ref ra, .long pz, .int kc, .ref rc, .ref rl, .ref rb, .int la, .int ca])), (ra, .inl (cB, 16400, .inl u_53))] := hD
          have hL_55 := hw
          refine lv_goto (tgt := 96) hx hb d_Mo_quoted_56 (by decide) ?_
          have hP9 := hP.sub (ws' := [(mo, .inr (8, [.int th, .int fd, .ref rt, .int mn, .ref rk, .ref rv, .ref rw, .ref ro, .int md, .ref rr, .int (nI ((P ++ [by_b 92]) ++ [by_b (nI ((kxB 20).getD (c0 - 7) 0))]).length), .ref ra, .long pz, .int kc, .ref rc, .ref rl, .ref rb, .int la, .int ca])), (ra, .inl (cB, 16400, .inl u_53))]) [0, 1] rfl
          have hD9 := hD.sub (ws' := [(mo, .inr (8, [.int th, .int fd, .ref rt, .int mn, .ref rk, .ref rv, .ref rw, .ref ro, .int md, .ref rr, .int (nI ((P ++ [by_b 92]) ++ [by_b (nI ((kxB 20).getD (c0 - 7) 0))]).length), .ref ra, .long pz, .int kc, .ref rc, .ref rl, .ref rb, .int la, .int ca])), (ra, .inl (cB, 16400, .inl u_53))]) [0, 1] (by decide) rfl
          have hK9 := hK.sub (tys' := [(cB, .byte)]) [0] rfl
          rw [show ((P ++ [by_b 92]) ++ [by_b (nI ((kxB 20).getD (c0 - 7) 0))]) = (P ++ (mq sg c0)) from mq_2 f_2 f_8 f_28 f_34] at hP9 hD9
          exact zz_vret hx hb hr hlocks d_Mo_quoted_96 hS (by first | exact Nat.le_refl _ | decide | omega | (dsimp only; omega)) (by first | exact Nat.le_refl _ | decide | omega | (dsimp only; omega)) u_53 (by rw [show ((P ++ [by_b 92]) ++ [by_b (nI ((kxB 20).getD (c0 - 7) 0))]) = (P ++ (mq sg c0)) from mq_2 f_2 f_8 f_28 f_34] at hL_55; exact hL_55) hP9 hK9 hD9
    · skip
      have f_8 : c0 = 92 := nI_e1 (b := 92) c_8 (by omega) (by omega)
      refine lv_aload_n hx hb d_Mo_quoted_11 rfl (lv_at hl 0 rfl) ?_
      refine lv_bipush (v := 92) hx hb d_Mo_quoted_12 (by decide) ?_
      have hPc := hP.sub (ws' := [(mo, .inr (8, [.int th, .int fd, .ref rt, .int mn, .ref rk, .ref rv, .ref rw, .ref ro, .int md, .ref rr, .int (nI P.length), .ref ra, .long pz, .int kc, .ref rc, .ref rl, .ref rb, .int la, .int ca])), (ra, .inl (cB, 16400, .inl fa))]) [0, 1] rfl
      have hKc := hK.sub (tys' := [(cB, .byte)]) [0] rfl
      have hDc := hD.sub (ws' := [(mo, .inr (8, [.int th, .int fd, .ref rt, .int mn, .ref rk, .ref rv, .ref rw, .ref ro, .int md, .ref rr, .int (nI P.length), .ref ra, .long pz, .int kc, .ref rc, .ref rl, .ref rb, .int la, .int ca])), (ra, .inl (cB, 16400, .inl fa))]) [0, 1] (by decide) rfl
      have hFc := va_free (wc := [(mo, .inr (8, [.int th, .int fd, .ref rt, .int mn, .ref rk, .ref rv, .ref rw, .ref ro, .int md, .ref rr, .int (nI P.length), .ref ra, .long pz, .int kc, .ref rc, .ref rl, .ref rb, .int la, .int ca])), (ra, .inl (cB, 16400, .inl fa))]) hD hS hA [0, 1] rfl
      refine zz_callv (va_runV (As := [.int 92]) (rest := []) ⟨hx, hb, hml, hown, hg⟩ (c_Mo_put l dC dI mo rt rk rv rw ro rr ra rc rl rb th fd mn md (nI P.length) pz kc la ca cB fa P 92 hLa (by (try simp only [List.length_append, List.length_cons, List.length_nil]); omega) s.heap.size) (cwV 1 hg (gi_V kw_863 kw_865 sw_16 kw_9 kw_866) rfl rfl rfl (by decide +kernel) ⟨Nat.le_of_ble_eq_true rfl, Nat.le_of_ble_eq_true rfl⟩) (zz_preV hPc hKc hDc _ (q0 := 0) (ci := 8) rfl rfl) rfl rfl hl.1 rfl (lv_room (Nat.le_of_ble_eq_true rfl)) d_Mo_quoted_14 ⟨Nat.le_of_ble_eq_true rfl, Nat.le_of_ble_eq_true rfl⟩) hS hFc (fun u H1 k9 p9 d9 => va_join (wr := []) hP hD [0, 1] [] rfl rfl (by decide) (by decide) k9 hFc p9 d9) (fun u H locs hw hP hD hK1 hS => ?_)
      obtain ⟨u_56, rfl⟩ : ∃ z, z = u := ⟨_, rfl⟩
      try dsimp only at hw
      have hP : va_P (dC, dI) vwCl [(mo, .inr (8, [.int th, .int fd, .ref rt, .int mn, .ref rk, .ref rv, .ref rw, .ref ro, .int md, .ref rr, .int (nI (P ++ [by_b 92]).length), .ref ra, .long pz, .int kc, .ref rc, .ref rl, .ref rb, .int la, .int ca])), (ra, .inl (cB, 16400, .inl u_56))] H := hP
      have hD : va_D A [(mo, .inr (8, [.int th, .int fd, .ref rt, .int mn, .ref rk, .ref rv, .ref rw, .ref ro, .int md, .ref rr, .int (nI (P ++ [by_b 92]).length), .ref ra, .long pz, .int kc, .ref rc, .ref rl, .ref rb, .int la, .int ca])), (ra, .inl (cB, 16400, .inl u_56))] := hD
      have hL_58 := hw
      refine lv_aload_n hx hb d_Mo_quoted_17 rfl (lv_at hl 0 rfl) ?_
      refine lv_iload_n hx hb d_Mo_quoted_18 rfl (lv_at hl 1 rfl) ?_
      have hPc := hP.sub (ws' := [(mo, .inr (8, [.int th, .int fd, .ref rt, .int mn, .ref rk, .ref rv, .ref rw, .ref ro, .int md, .ref rr, .int (nI (P ++ [by_b 92]).length), .ref ra, .long pz, .int kc, .ref rc, .ref rl, .ref rb, .int la, .int ca])), (ra, .inl (cB, 16400, .inl u_56))]) [0, 1] rfl
      have hKc := hK.sub (tys' := [(cB, .byte)]) [0] rfl
      have hDc := hD.sub (ws' := [(mo, .inr (8, [.int th, .int fd, .ref rt, .int mn, .ref rk, .ref rv, .ref rw, .ref ro, .int md, .ref rr, .int (nI (P ++ [by_b 92]).length), .ref ra, .long pz, .int kc, .ref rc, .ref rl, .ref rb, .int la, .int ca])), (ra, .inl (cB, 16400, .inl u_56))]) [0, 1] (by decide) rfl
      have hFc := va_free (wc := [(mo, .inr (8, [.int th, .int fd, .ref rt, .int mn, .ref rk, .ref rv, .ref rw, .ref ro, .int md, .ref rr, .int (nI (P ++ [by_b 92]).length), .ref ra, .long pz, .int kc, .ref rc, .ref rl, .ref rb, .int la, .int ca])), (ra, .inl (cB, 16400, .inl u_56))]) hD hS hA [0, 1] rfl
      refine zz_callv (va_runV (As := [.int (nI c0)]) (rest := []) ⟨hx, hb, hml, hown, hg⟩ (c_Mo_put l dC dI mo rt rk rv rw ro rr ra rc rl rb th fd mn md (nI (P ++ [by_b 92]).length) pz kc la ca cB u_56 (P ++ [by_b 92]) (nI c0) hL_58 (by (try simp only [List.length_append, List.length_cons, List.length_nil]); omega) H.size) (cwV 1 hg (gi_V kw_863 kw_865 sw_16 kw_9 kw_866) rfl rfl rfl (by decide +kernel) ⟨Nat.le_of_ble_eq_true rfl, Nat.le_of_ble_eq_true rfl⟩) (zz_preV hPc hKc hDc _ (q0 := 0) (ci := 8) rfl rfl) rfl rfl hl.1 rfl (lv_room (Nat.le_of_ble_eq_true rfl)) d_Mo_quoted_19 ⟨Nat.le_of_ble_eq_true rfl, Nat.le_of_ble_eq_true rfl⟩) hS hFc (fun u H1 k9 p9 d9 => va_join (wr := []) hP hD [0, 1] [] rfl rfl (by decide) (by decide) k9 hFc p9 d9) (fun u H locs hw hP hD hK1 hS => ?_)
      obtain ⟨u_59, rfl⟩ : ∃ z, z = u := ⟨_, rfl⟩
      try dsimp only at hw
      have hP : va_P (dC, dI) vwCl [(mo, .inr (8, [.int th, .int fd, .ref rt, .int mn, .ref rk, .ref rv, .ref rw, .ref ro, .int md, .ref rr, .int (nI ((P ++ [by_b 92]) ++ [by_b (nI c0)]).length), .ref ra, .long pz, .int kc, .ref rc, .ref rl, .ref rb, .int la, .int ca])), (ra, .inl (cB, 16400, .inl u_59))] H := hP
      have hD : va_D A [(mo, .inr (8, [.int th, .int fd, .ref rt, .int mn, .ref rk, .ref rv, .ref rw, .ref ro, .int md, .ref rr, .int (nI ((P ++ [by_b 92]) ++ [by_b (nI c0)]).length), .ref ra, .long pz, .int kc, .ref rc, .ref rl, .ref rb, .int la, .int ca])), (ra, .inl (cB, 16400, .inl u_59))] := hD
      have hL_61 := hw
      refine lv_goto (tgt := 96) hx hb d_Mo_quoted_22 (by decide) ?_
      have hP9 := hP.sub (ws' := [(mo, .inr (8, [.int th, .int fd, .ref rt, .int mn, .ref rk, .ref rv, .ref rw, .ref ro, .int md, .ref rr, .int (nI ((P ++ [by_b 92]) ++ [by_b (nI c0)]).length), .ref ra, .long pz, .int kc, .ref rc, .ref rl, .ref rb, .int la, .int ca])), (ra, .inl (cB, 16400, .inl u_59))]) [0, 1] rfl
      have hD9 := hD.sub (ws' := [(mo, .inr (8, [.int th, .int fd, .ref rt, .int mn, .ref rk, .ref rv, .ref rw, .ref ro, .int md, .ref rr, .int (nI ((P ++ [by_b 92]) ++ [by_b (nI c0)]).length), .ref ra, .long pz, .int kc, .ref rc, .ref rl, .ref rb, .int la, .int ca])), (ra, .inl (cB, 16400, .inl u_59))]) [0, 1] (by decide) rfl
      have hK9 := hK.sub (tys' := [(cB, .byte)]) [0] rfl
      rw [show ((P ++ [by_b 92]) ++ [by_b (nI c0)]) = (P ++ (mq sg c0)) from mq_1 hsg (Or.inr f_8)] at hP9 hD9
      exact zz_vret hx hb hr hlocks d_Mo_quoted_96 hS (by first | exact Nat.le_refl _ | decide | omega | (dsimp only; omega)) (by first | exact Nat.le_refl _ | decide | omega | (dsimp only; omega)) u_59 (by rw [show ((P ++ [by_b 92]) ++ [by_b (nI c0)]) = (P ++ (mq sg c0)) from mq_1 hsg (Or.inr f_8)] at hL_61; exact hL_61) hP9 hK9 hD9
abbrev y_Mo_digits : MethodName := ⟨"TextForgeModel", "digits", "(JIZ)V"⟩
abbrev w_Mo_digits : List Cond := Cond.code y_Mo_digits prog_12_method_17_code 10 none :: gw
theorem d_Mo_digits_0 : decode prog_12_method_17_code 0 = .ok (.lconst 1, 1) := by decide +kernel
theorem d_Mo_digits_1 : decode prog_12_method_17_code 1 = .ok (.lstore 5, 2) := by decide +kernel
theorem d_Mo_digits_3 : decode prog_12_method_17_code 3 = .ok (.lload_n 1, 1) := by decide +kernel
theorem d_Mo_digits_4 : decode prog_12_method_17_code 4 = .ok (.iload_n 3, 1) := by decide +kernel
theorem d_Mo_digits_5 : decode prog_12_method_17_code 5 = .ok (.invokestatic 89, 3) := by decide +kernel
theorem d_Mo_digits_8 : decode prog_12_method_17_code 8 = .ok (.lload 5, 2) := by decide +kernel
theorem d_Mo_digits_10 : decode prog_12_method_17_code 10 = .ok (.invokestatic 85, 3) := by decide +kernel
theorem d_Mo_digits_13 : decode prog_12_method_17_code 13 = .ok (.ifCond .ne 13, 3) := by decide +kernel
theorem d_Mo_digits_16 : decode prog_12_method_17_code 16 = .ok (.lload 5, 2) := by decide +kernel
theorem d_Mo_digits_18 : decode prog_12_method_17_code 18 = .ok (.iload_n 3, 1) := by decide +kernel
theorem d_Mo_digits_19 : decode prog_12_method_17_code 19 = .ok (.i2l, 1) := by decide +kernel
theorem d_Mo_digits_20 : decode prog_12_method_17_code 20 = .ok (.lmul, 1) := by decide +kernel
theorem d_Mo_digits_21 : decode prog_12_method_17_code 21 = .ok (.lstore 5, 2) := by decide +kernel
theorem d_Mo_digits_23 : decode prog_12_method_17_code 23 = .ok (.goto (-20), 3) := by decide +kernel
theorem d_Mo_digits_26 : decode prog_12_method_17_code 26 = .ok (.lload_n 1, 1) := by decide +kernel
theorem d_Mo_digits_27 : decode prog_12_method_17_code 27 = .ok (.lstore 7, 2) := by decide +kernel
theorem d_Mo_digits_29 : decode prog_12_method_17_code 29 = .ok (.lload 5, 2) := by decide +kernel
theorem d_Mo_digits_31 : decode prog_12_method_17_code 31 = .ok (.lconst 0, 1) := by decide +kernel
theorem d_Mo_digits_32 : decode prog_12_method_17_code 32 = .ok (.lcmp, 1) := by decide +kernel
theorem d_Mo_digits_33 : decode prog_12_method_17_code 33 = .ok (.ifCond .eq 88, 3) := by decide +kernel
theorem d_Mo_digits_36 : decode prog_12_method_17_code 36 = .ok (.iconst 0, 1) := by decide +kernel
theorem d_Mo_digits_37 : decode prog_12_method_17_code 37 = .ok (.istore 9, 2) := by decide +kernel
theorem d_Mo_digits_39 : decode prog_12_method_17_code 39 = .ok (.lload 7, 2) := by decide +kernel
theorem d_Mo_digits_41 : decode prog_12_method_17_code 41 = .ok (.lload 5, 2) := by decide +kernel
theorem d_Mo_digits_43 : decode prog_12_method_17_code 43 = .ok (.invokestatic 85, 3) := by decide +kernel
theorem d_Mo_digits_46 : decode prog_12_method_17_code 46 = .ok (.ifCond .ne 16, 3) := by decide +kernel
theorem d_Mo_digits_49 : decode prog_12_method_17_code 49 = .ok (.lload 7, 2) := by decide +kernel
theorem d_Mo_digits_51 : decode prog_12_method_17_code 51 = .ok (.lload 5, 2) := by decide +kernel
theorem d_Mo_digits_53 : decode prog_12_method_17_code 53 = .ok (.lsub, 1) := by decide +kernel
theorem d_Mo_digits_54 : decode prog_12_method_17_code 54 = .ok (.lstore 7, 2) := by decide +kernel
theorem d_Mo_digits_56 : decode prog_12_method_17_code 56 = .ok (.iinc 9 1, 3) := by decide +kernel
theorem d_Mo_digits_59 : decode prog_12_method_17_code 59 = .ok (.goto (-20), 3) := by decide +kernel
theorem d_Mo_digits_62 : decode prog_12_method_17_code 62 = .ok (.aload_n 0, 1) := by decide +kernel
theorem d_Mo_digits_63 : decode prog_12_method_17_code 63 = .ok (.iload 9, 2) := by decide +kernel
theorem d_Mo_digits_65 : decode prog_12_method_17_code 65 = .ok (.bipush 10, 2) := by decide +kernel
theorem d_Mo_digits_67 : decode prog_12_method_17_code 67 = .ok (.if_icmp .ge 11, 3) := by decide +kernel
theorem d_Mo_digits_70 : decode prog_12_method_17_code 70 = .ok (.bipush 48, 2) := by decide +kernel
theorem d_Mo_digits_72 : decode prog_12_method_17_code 72 = .ok (.iload 9, 2) := by decide +kernel
theorem d_Mo_digits_74 : decode prog_12_method_17_code 74 = .ok (.iadd, 1) := by decide +kernel
theorem d_Mo_digits_75 : decode prog_12_method_17_code 75 = .ok (.goto 21, 3) := by decide +kernel
theorem d_Mo_digits_78 : decode prog_12_method_17_code 78 = .ok (.iload 4, 2) := by decide +kernel
theorem d_Mo_digits_80 : decode prog_12_method_17_code 80 = .ok (.ifCond .eq 8, 3) := by decide +kernel
theorem d_Mo_digits_83 : decode prog_12_method_17_code 83 = .ok (.bipush 65, 2) := by decide +kernel
theorem d_Mo_digits_85 : decode prog_12_method_17_code 85 = .ok (.goto 5, 3) := by decide +kernel
theorem d_Mo_digits_88 : decode prog_12_method_17_code 88 = .ok (.bipush 97, 2) := by decide +kernel
theorem d_Mo_digits_90 : decode prog_12_method_17_code 90 = .ok (.iload 9, 2) := by decide +kernel
theorem d_Mo_digits_92 : decode prog_12_method_17_code 92 = .ok (.iadd, 1) := by decide +kernel
theorem d_Mo_digits_93 : decode prog_12_method_17_code 93 = .ok (.bipush 10, 2) := by decide +kernel
theorem d_Mo_digits_95 : decode prog_12_method_17_code 95 = .ok (.isub, 1) := by decide +kernel
theorem d_Mo_digits_96 : decode prog_12_method_17_code 96 = .ok (.invokevirtual 74, 3) := by decide +kernel
theorem d_Mo_digits_99 : decode prog_12_method_17_code 99 = .ok (.lload 5, 2) := by decide +kernel
theorem d_Mo_digits_101 : decode prog_12_method_17_code 101 = .ok (.lconst 1, 1) := by decide +kernel
theorem d_Mo_digits_102 : decode prog_12_method_17_code 102 = .ok (.lcmp, 1) := by decide +kernel
theorem d_Mo_digits_103 : decode prog_12_method_17_code 103 = .ok (.ifCond .ne 7, 3) := by decide +kernel
theorem d_Mo_digits_106 : decode prog_12_method_17_code 106 = .ok (.lconst 0, 1) := by decide +kernel
theorem d_Mo_digits_107 : decode prog_12_method_17_code 107 = .ok (.goto 9, 3) := by decide +kernel
theorem d_Mo_digits_110 : decode prog_12_method_17_code 110 = .ok (.lload 5, 2) := by decide +kernel
theorem d_Mo_digits_112 : decode prog_12_method_17_code 112 = .ok (.iload_n 3, 1) := by decide +kernel
theorem d_Mo_digits_113 : decode prog_12_method_17_code 113 = .ok (.invokestatic 89, 3) := by decide +kernel
theorem d_Mo_digits_116 : decode prog_12_method_17_code 116 = .ok (.lstore 5, 2) := by decide +kernel
theorem d_Mo_digits_118 : decode prog_12_method_17_code 118 = .ok (.goto (-89), 3) := by decide +kernel
theorem d_Mo_digits_121 : decode prog_12_method_17_code 121 = .ok (.return_, 1) := by decide +kernel
set_option maxHeartbeats 4000000 in
set_option maxRecDepth 100000 in
theorem c_Mo_digits (l : Launch) (dC : Nat → ClassId) (dI : Nat → Nat → Nat) (mo rt rk rv rw ro rr ra rc rl rb : Nat) (th fd mn md pt : Int32) (pz : Int64) (kc la ca : Int32) (cB : ClassId) (fa : Nat → Int32) (P : List Nat) (n b : Nat) (cp : Bool) (hLa : by_L P fa) (hpa : P.length + 64 ≤ 16400) (hn : n < 2 ^ 64) (hb2 : 2 ≤ b) (hb36 : b ≤ 36) : zM_v (S := Nat → Int32) l y_Mo_digits w_Mo_digits { frames := 2, cells := 0, slots := 0, locals := 47 } (dC, dI) vwCl [.ref mo, .long (lN n), .int (nI b), .int (by_z cp)] [(mo, .inr (8, [.int th, .int fd, .ref rt, .int mn, .ref rk, .ref rv, .ref rw, .ref ro, .int md, .ref rr, .int (nI P.length), .ref ra, .long pz, .int kc, .ref rc, .ref rl, .ref rb, .int la, .int ca])), (ra, .inl (cB, 16400, .inl fa))] [(cB, .byte)] (fun (u : Nat → Int32) => by_L (P ++ (nu_f b (dg_t cp) 64 n).reverse) u) (fun u => [(mo, .inr (8, [.int th, .int fd, .ref rt, .int mn, .ref rk, .ref rv, .ref rw, .ref ro, .int md, .ref rr, .int (nI (P ++ (nu_f b (dg_t cp) 64 n).reverse).length), .ref ra, .long pz, .int kc, .ref rc, .ref rl, .ref rb, .int la, .int ca])), (ra, .inl (cB, 16400, .inl u))]) (fun u => [(cB, .byte)]) 0 0 := by
  refine zz_enterv (cc := prog_12_method_17_code) (nL := 10) (ret := none) (by decide) rfl (Nat.le_of_ble_eq_true rfl) ?_
  intro p e s m below meth c A ls C0 hA hS hP hK hD hl
  obtain ⟨hx, hb, hml, hown, hg, hr, hlocks, hin⟩ := C0
  have hown : s.vm.findClass "TextForgeModel" = some m.cls := hown
  have hP : va_P (dC, dI) vwCl [(mo, .inr (8, [.int th, .int fd, .ref rt, .int mn, .ref rk, .ref rv, .ref rw, .ref ro, .int md, .ref rr, .int (nI P.length), .ref ra, .long pz, .int kc, .ref rc, .ref rl, .ref rb, .int la, .int ca])), (ra, .inl (cB, 16400, .inl fa))] s.heap := hP
  have hK : va_K (dC, dI) vwCl [(cB, .byte)] s := hK
  have hD : va_D A [(mo, .inr (8, [.int th, .int fd, .ref rt, .int mn, .ref rk, .ref rv, .ref rw, .ref ro, .int md, .ref rr, .int (nI P.length), .ref ra, .long pz, .int kc, .ref rc, .ref rl, .ref rb, .int la, .int ca])), (ra, .inl (cB, 16400, .inl fa))] := hD
  have hl : lv_has ls 10 [(0, .ref mo), (1, .long (lN n)), (3, .int (nI b)), (4, .int (by_z cp))] := hl
  refine lv_lconst (v := 1) hx hb d_Mo_digits_0 (by decide) ?_
  refine lv_lstore (lv' := [(5, .long 1), (0, .ref mo), (1, .long (lN n)), (3, .int (nI b)), (4, .int (by_z cp))]) hx hb d_Mo_digits_1 hl (by decide) rfl (fun ls hl => ?_)
  rw [show (1 : Int64) = lN (b ^ 0) by rw [Nat.pow_zero]; rfl] at hl
  refine zz_loop (fun (x : Nat) H locs ls => match x with | e1 => va_P (dC, dI) vwCl [(mo, .inr (8, [.int th, .int fd, .ref rt, .int mn, .ref rk, .ref rv, .ref rw, .ref ro, .int md, .ref rr, .int (nI P.length), .ref ra, .long pz, .int kc, .ref rc, .ref rl, .ref rb, .int la, .int ca])), (ra, .inl (cB, 16400, .inl fa))] H ∧ va_D A [(mo, .inr (8, [.int th, .int fd, .ref rt, .int mn, .ref rk, .ref rv, .ref rw, .ref ro, .int md, .ref rr, .int (nI P.length), .ref ra, .long pz, .int kc, .ref rc, .ref rl, .ref rb, .int la, .int ca])), (ra, .inl (cB, 16400, .inl fa))] ∧ va_S A s.heap H locs ∧ lv_has ls 10 [(0, .ref mo), (1, .long (lN n)), (3, .int (nI b)), (4, .int (by_z cp)), (5, .long (lN (b ^ e1)))] ∧ (b ^ e1 < 2 ^ 64 ∧ e1 < 64) ∧ (e1 = 0 ∨ b ^ e1 ≤ n)) (fun x => match x with | e1 => 64 - e1) ?_ 0 ⟨hP.sub [0, 1] rfl, hD.sub [0, 1] (by decide) rfl, hS, lv_sub hl [1, 2, 3, 4, 0] rfl, ⟨by rw [Nat.pow_zero]; decide, by decide⟩, (Or.inl rfl)⟩
  intro x H locs ls hI ih_3
  obtain ⟨e1, rfl⟩ : ∃ z, z = x := ⟨_, rfl⟩
  try dsimp only at hI
  obtain ⟨hP, hD, hS, hl, hz1, hz2⟩ := hI
  refine lv_lload_n hx hb d_Mo_digits_3 rfl (lv_at hl 1 rfl) ?_
  refine lv_iload_n hx hb d_Mo_digits_4 rfl (lv_at hl 2 rfl) ?_
  have hPc := hP.sub (ws' := []) [] rfl
  have hKc := hK.sub (tys' := []) [] rfl
  refine vp_callSl (W.runS (As := [.long (lN n), .int (nI b)]) (rest := []) ⟨hx, hb, hml, hown, hg⟩ (c_Mo_goes l dC dI n b hn hb2 hb36) (va_cwS 2 hg (gi_S kw_875 kw_876 kw_9 kw_877) rfl rfl rfl (by decide +kernel) ⟨Nat.le_of_ble_eq_true rfl, Nat.le_of_ble_eq_true rfl⟩) (zz_prJS hPc hKc _) rfl rfl hl.1 rfl (lv_room (Nat.le_of_ble_eq_true rfl)) d_Mo_digits_5 ⟨Nat.le_of_ble_eq_true rfl, Nat.le_of_ble_eq_true rfl⟩) (fun r_1 hr_1 => ?_)
  subst hr_1
  refine lv_lload hx hb d_Mo_digits_8 (lv_at hl 4 rfl) ?_
  have hPc := hP.sub (ws' := []) [] rfl
  have hKc := hK.sub (tys' := []) [] rfl
  refine vp_callSi (W.runS (As := [.long (lN (n / b)), .long (lN (b ^ e1))]) (rest := []) ⟨hx, hb, hml, hown, hg⟩ (c_Mo_less l dC dI (n / b) (b ^ e1) (by have := Nat.div_le_self n b; omega) hz1.1) (va_cwS 2 hg (gi_S kw_878 kw_879 kw_9 kw_880) rfl rfl rfl (by decide +kernel) ⟨Nat.le_of_ble_eq_true rfl, Nat.le_of_ble_eq_true rfl⟩) (zz_prJS hPc hKc _) rfl rfl hl.1 rfl (lv_room (Nat.le_of_ble_eq_true rfl)) d_Mo_digits_10 ⟨Nat.le_of_ble_eq_true rfl, Nat.le_of_ble_eq_true rfl⟩) (fun r_2 hr_2 => ?_)
  refine lv_if_ne (tgt := 26) hx hb d_Mo_digits_13 (by decide) (fun c_13 => ?_) (fun c_13 => ?_)
  · skip
    have f_13 : n / b < b ^ e1 := of_decide_eq_true (by_z_t hr_2 c_13)
    refine lv_lload_n hx hb d_Mo_digits_26 rfl (lv_at hl 1 rfl) ?_
    refine lv_lstore (lv' := [(7, .long (lN n)), (0, .ref mo), (1, .long (lN n)), (3, .int (nI b)), (4, .int (by_z cp)), (5, .long (lN (b ^ e1)))]) hx hb d_Mo_digits_27 hl (by decide) rfl (fun ls hl => ?_)
    rw [show nI P.length = nI (P ++ []).length by rw [List.append_nil]] at hP hD
    rw [← dg_p1] at hl
    refine zz_loop (fun (x : Nat × Nat × List Nat × (Nat → Int32)) H locs ls => match x with | (k1, x1, W1, g) => va_P (dC, dI) vwCl [(mo, .inr (8, [.int th, .int fd, .ref rt, .int mn, .ref rk, .ref rv, .ref rw, .ref ro, .int md, .ref rr, .int (nI (P ++ W1).length), .ref ra, .long pz, .int kc, .ref rc, .ref rl, .ref rb, .int la, .int ca])), (ra, .inl (cB, 16400, .inl g))] H ∧ va_D A [(mo, .inr (8, [.int th, .int fd, .ref rt, .int mn, .ref rk, .ref rv, .ref rw, .ref ro, .int md, .ref rr, .int (nI (P ++ W1).length), .ref ra, .long pz, .int kc, .ref rc, .ref rl, .ref rb, .int la, .int ca])), (ra, .inl (cB, 16400, .inl g))] ∧ va_S A s.heap H locs ∧ lv_has ls 10 [(0, .ref mo), (1, .long (lN n)), (3, .int (nI b)), (4, .int (by_z cp)), (5, .long (lN (dg_p b k1))), (7, .long (lN x1))] ∧ by_L (P ++ W1) g ∧ ((nu_f b (dg_t cp) 64 n).reverse = W1 ++ dg_s b (dg_t cp) k1 x1) ∧ x1 < b ^ k1 ∧ W1.length + k1 ≤ 64 ∧ dg_p b k1 < 2 ^ 64 ∧ x1 ≤ n) (fun x => match x with | (k1, x1, W1, g) => k1) ?_ (e1 + 1, n, [], fa) ⟨hP.sub [0, 1] rfl, hD.sub [0, 1] (by decide) rfl, hS, lv_sub hl [1, 2, 3, 4, 5, 0] rfl, (by rw [List.append_nil]; exact hLa), (dg_i hb2 hz2 f_13 hz1.2).1, (dg_i (t := 97) hb2 hz2 f_13 hz1.2).2, (by show 0 + (e1 + 1) ≤ 64; omega), (by rw [dg_p1]; exact hz1.1), (Nat.le_refl _)⟩
    intro x H locs ls hI ih_29
    obtain ⟨k1, x1, W1, g⟩ := x
    try dsimp only at hI
    obtain ⟨hP, hD, hS, hl, hLW, hE, hx1, hWl, hpl, hxn⟩ := hI
    refine lv_lload hx hb d_Mo_digits_29 (lv_at hl 4 rfl) ?_
    refine lv_lconst (v := 0) hx hb d_Mo_digits_31 (by decide) ?_
    refine W.lcmp hx hb d_Mo_digits_32 ?_
    refine lv_if_eq (tgt := 121) hx hb d_Mo_digits_33 (by decide) (fun c_33 => ?_) (fun c_33 => ?_)
    · skip
      have f_33 : k1 = 0 := dg_k0 hb2 ((dg_c0 hpl).mp c_33)
      have hP9 := hP.sub (ws' := [(mo, .inr (8, [.int th, .int fd, .ref rt, .int mn, .ref rk, .ref rv, .ref rw, .ref ro, .int md, .ref rr, .int (nI (P ++ W1).length), .ref ra, .long pz, .int kc, .ref rc, .ref rl, .ref rb, .int la, .int ca])), (ra, .inl (cB, 16400, .inl g))]) [0, 1] rfl
      have hD9 := hD.sub (ws' := [(mo, .inr (8, [.int th, .int fd, .ref rt, .int mn, .ref rk, .ref rv, .ref rw, .ref ro, .int md, .ref rr, .int (nI (P ++ W1).length), .ref ra, .long pz, .int kc, .ref rc, .ref rl, .ref rb, .int la, .int ca])), (ra, .inl (cB, 16400, .inl g))]) [0, 1] (by decide) rfl
      have hK9 := hK.sub (tys' := [(cB, .byte)]) [0] rfl
      rw [show (P ++ W1) = (P ++ (nu_f b (dg_t cp) 64 n).reverse) from (by rw [hE, f_33]; show P ++ W1 = P ++ (W1 ++ []); rw [List.append_nil])] at hP9 hD9
      exact zz_vret hx hb hr hlocks d_Mo_digits_121 hS (by first | exact Nat.le_refl _ | decide | omega | (dsimp only; omega)) (by first | exact Nat.le_refl _ | decide | omega | (dsimp only; omega)) g (by rw [show (P ++ W1) = (P ++ (nu_f b (dg_t cp) 64 n).reverse) from (by rw [hE, f_33]; show P ++ W1 = P ++ (W1 ++ []); rw [List.append_nil])] at hLW; exact hLW) hP9 hK9 hD9
    · skip
      have f_33 : dg_p b k1 ≠ 0 := fun z => c_33 ((dg_c0 hpl).mpr z)
      have hkp := dg_kn hb2 f_33
      refine lv_iconst (v := 0) hx hb d_Mo_digits_36 (by decide) ?_
      refine lv_istore (lv' := [(9, .int 0), (0, .ref mo), (1, .long (lN n)), (3, .int (nI b)), (4, .int (by_z cp)), (5, .long (lN (dg_p b k1))), (7, .long (lN x1))]) hx hb d_Mo_digits_37 hl (by decide) rfl (fun ls hl => ?_)
      refine zz_loop (fun (x : Nat × Nat) H locs ls => match x with | (y, d) => va_P (dC, dI) vwCl [(mo, .inr (8, [.int th, .int fd, .ref rt, .int mn, .ref rk, .ref rv, .ref rw, .ref ro, .int md, .ref rr, .int (nI (P ++ W1).length), .ref ra, .long pz, .int kc, .ref rc, .ref rl, .ref rb, .int la, .int ca])), (ra, .inl (cB, 16400, .inl g))] H ∧ va_D A [(mo, .inr (8, [.int th, .int fd, .ref rt, .int mn, .ref rk, .ref rv, .ref rw, .ref ro, .int md, .ref rr, .int (nI (P ++ W1).length), .ref ra, .long pz, .int kc, .ref rc, .ref rl, .ref rb, .int la, .int ca])), (ra, .inl (cB, 16400, .inl g))] ∧ va_S A s.heap H locs ∧ lv_has ls 10 [(0, .ref mo), (1, .long (lN n)), (3, .int (nI b)), (4, .int (by_z cp)), (5, .long (lN (dg_p b k1))), (7, .long (lN y)), (9, .int (nI d))] ∧ (y + d * dg_p b k1 = x1)) (fun x => match x with | (y, d) => y) ?_ (x1, 0) ⟨hP.sub [0, 1] rfl, hD.sub [0, 1] (by decide) rfl, hS, lv_sub hl [1, 2, 3, 4, 5, 6, 0] rfl, (by rw [Nat.zero_mul]; rfl)⟩
      intro x H locs ls hI ih_39
      obtain ⟨y, d⟩ := x
      try dsimp only at hI
      obtain ⟨hP, hD, hS, hl, hy⟩ := hI
      refine lv_lload hx hb d_Mo_digits_39 (lv_at hl 5 rfl) ?_
      refine lv_lload hx hb d_Mo_digits_41 (lv_at hl 4 rfl) ?_
      have hPc := hP.sub (ws' := []) [] rfl
      have hKc := hK.sub (tys' := []) [] rfl
      refine vp_callSi (W.runS (As := [.long (lN y), .long (lN (dg_p b k1))]) (rest := []) ⟨hx, hb, hml, hown, hg⟩ (c_Mo_less l dC dI y (dg_p b k1) (by omega) hpl) (va_cwS 2 hg (gi_S kw_878 kw_879 kw_9 kw_880) rfl rfl rfl (by decide +kernel) ⟨Nat.le_of_ble_eq_true rfl, Nat.le_of_ble_eq_true rfl⟩) (zz_prJS hPc hKc _) rfl rfl hl.1 rfl (lv_room (Nat.le_of_ble_eq_true rfl)) d_Mo_digits_43 ⟨Nat.le_of_ble_eq_true rfl, Nat.le_of_ble_eq_true rfl⟩) (fun r_3 hr_3 => ?_)
      refine lv_if_ne (tgt := 62) hx hb d_Mo_digits_46 (by decide) (fun c_46 => ?_) (fun c_46 => ?_)
      · skip
        have f_46 : y < dg_p b k1 := of_decide_eq_true (by_z_t hr_3 c_46)
        have hd36 : d < b := (dg_st (t := 97) (N := [] ++ dg_s b 97 k1 x1) hb2 f_33 rfl hx1 hy f_46).2.2
        refine lv_aload_n hx hb d_Mo_digits_62 rfl (lv_at hl 0 rfl) ?_
        refine lv_iload hx hb d_Mo_digits_63 (lv_at hl 6 rfl) ?_
        refine lv_bipush (v := 10) hx hb d_Mo_digits_65 (by decide) ?_
        refine lv_icmp_ge (tgt := 78) hx hb d_Mo_digits_67 (by decide) (fun c_67 => ?_) (fun c_67 => ?_)
        · skip
          have f_67 : 10 ≤ d := Nat.le_of_not_lt (fun z => nI_ge (b := 10) z (by omega) c_67)
          refine lv_iload hx hb d_Mo_digits_78 (lv_at hl 3 rfl) ?_
          refine lv_if_eq (tgt := 88) hx hb d_Mo_digits_80 (by decide) (fun c_80 => ?_) (fun c_80 => ?_)
          · skip
            have hcp : cp = false := by_z_f rfl c_80
            refine lv_bipush (v := 97) hx hb d_Mo_digits_88 (by decide) ?_
            refine lv_iload hx hb d_Mo_digits_90 (lv_at hl 6 rfl) ?_
            refine lv_iadd hx hb d_Mo_digits_92 ?_
            refine lv_bipush (v := 10) hx hb d_Mo_digits_93 (by decide) ?_
            refine lv_isub hx hb d_Mo_digits_95 ?_
            rw [dg_v3 f_67 hcp]
            have hPc := hP.sub (ws' := [(mo, .inr (8, [.int th, .int fd, .ref rt, .int mn, .ref rk, .ref rv, .ref rw, .ref ro, .int md, .ref rr, .int (nI (P ++ W1).length), .ref ra, .long pz, .int kc, .ref rc, .ref rl, .ref rb, .int la, .int ca])), (ra, .inl (cB, 16400, .inl g))]) [0, 1] rfl
            have hKc := hK.sub (tys' := [(cB, .byte)]) [0] rfl
            have hDc := hD.sub (ws' := [(mo, .inr (8, [.int th, .int fd, .ref rt, .int mn, .ref rk, .ref rv, .ref rw, .ref ro, .int md, .ref rr, .int (nI (P ++ W1).length), .ref ra, .long pz, .int kc, .ref rc, .ref rl, .ref rb, .int la, .int ca])), (ra, .inl (cB, 16400, .inl g))]) [0, 1] (by decide) rfl
            have hFc := va_free (wc := [(mo, .inr (8, [.int th, .int fd, .ref rt, .int mn, .ref rk, .ref rv, .ref rw, .ref ro, .int md, .ref rr, .int (nI (P ++ W1).length), .ref ra, .long pz, .int kc, .ref rc, .ref rl, .ref rb, .int la, .int ca])), (ra, .inl (cB, 16400, .inl g))]) hD hS hA [0, 1] rfl
            refine zz_callv (va_runV (As := [.int (nI (nu_d (dg_t cp) d))]) (rest := []) ⟨hx, hb, hml, hown, hg⟩ (c_Mo_put l dC dI mo rt rk rv rw ro rr ra rc rl rb th fd mn md (nI (P ++ W1).length) pz kc la ca cB g (P ++ W1) (nI (nu_d (dg_t cp) d)) hLW (by (try simp only [List.length_append, List.length_cons, List.length_nil]); omega) H.size) (cwV 1 hg (gi_V kw_863 kw_865 sw_16 kw_9 kw_866) rfl rfl rfl (by decide +kernel) ⟨Nat.le_of_ble_eq_true rfl, Nat.le_of_ble_eq_true rfl⟩) (zz_preV hPc hKc hDc _ (q0 := 0) (ci := 8) rfl rfl) rfl rfl hl.1 rfl (lv_room (Nat.le_of_ble_eq_true rfl)) d_Mo_digits_96 ⟨Nat.le_of_ble_eq_true rfl, Nat.le_of_ble_eq_true rfl⟩) hS hFc (fun u H1 k9 p9 d9 => va_join (wr := []) hP hD [0, 1] [] rfl rfl (by decide) (by decide) k9 hFc p9 d9) (fun u H locs hw hP hD hK1 hS => ?_)
            obtain ⟨u_4, rfl⟩ : ∃ z, z = u := ⟨_, rfl⟩
            try dsimp only at hw
            have hP : va_P (dC, dI) vwCl [(mo, .inr (8, [.int th, .int fd, .ref rt, .int mn, .ref rk, .ref rv, .ref rw, .ref ro, .int md, .ref rr, .int (nI ((P ++ W1) ++ [by_b (nI (nu_d (dg_t cp) d))]).length), .ref ra, .long pz, .int kc, .ref rc, .ref rl, .ref rb, .int la, .int ca])), (ra, .inl (cB, 16400, .inl u_4))] H := hP
            have hD : va_D A [(mo, .inr (8, [.int th, .int fd, .ref rt, .int mn, .ref rk, .ref rv, .ref rw, .ref ro, .int md, .ref rr, .int (nI ((P ++ W1) ++ [by_b (nI (nu_d (dg_t cp) d))]).length), .ref ra, .long pz, .int kc, .ref rc, .ref rl, .ref rb, .int la, .int ca])), (ra, .inl (cB, 16400, .inl u_4))] := hD
            have hL_6 := hw
            refine lv_lload hx hb d_Mo_digits_99 (lv_at hl 4 rfl) ?_
            refine lv_lconst (v := 1) hx hb d_Mo_digits_101 (by decide) ?_
            refine W.lcmp hx hb d_Mo_digits_102 ?_
            refine lv_if_ne (tgt := 110) hx hb d_Mo_digits_103 (by decide) (fun c_103 => ?_) (fun c_103 => ?_)
            · skip
              have f_103 : dg_p b k1 ≠ 1 := fun z => c_103 ((dg_c1 hpl).mpr z)
              refine lv_lload hx hb d_Mo_digits_110 (lv_at hl 4 rfl) ?_
              refine lv_iload_n hx hb d_Mo_digits_112 rfl (lv_at hl 2 rfl) ?_
              have hPc := hP.sub (ws' := []) [] rfl
              have hKc := hK.sub (tys' := []) [] rfl
              refine vp_callSl (W.runS (As := [.long (lN (dg_p b k1)), .int (nI b)]) (rest := []) ⟨hx, hb, hml, hown, hg⟩ (c_Mo_goes l dC dI (dg_p b k1) b hpl hb2 hb36) (va_cwS 2 hg (gi_S kw_875 kw_876 kw_9 kw_877) rfl rfl rfl (by decide +kernel) ⟨Nat.le_of_ble_eq_true rfl, Nat.le_of_ble_eq_true rfl⟩) (zz_prJS hPc hKc _) rfl rfl hl.1 rfl (lv_room (Nat.le_of_ble_eq_true rfl)) d_Mo_digits_113 ⟨Nat.le_of_ble_eq_true rfl, Nat.le_of_ble_eq_true rfl⟩) (fun r_7 hr_7 => ?_)
              subst hr_7
              refine lv_lstore (lv' := [(5, .long (lN (dg_p b k1 / b))), (0, .ref mo), (1, .long (lN n)), (3, .int (nI b)), (4, .int (by_z cp)), (7, .long (lN y)), (9, .int (nI d))]) hx hb d_Mo_digits_116 hl (by decide) rfl (fun ls hl => ?_)
              refine lv_goto (tgt := 29) hx hb d_Mo_digits_118 (by decide) ?_
              have hst := dg_st (t := dg_t cp) hb2 f_33 hE hx1 hy f_46
              have hds : (P ++ W1) ++ [by_b (nI (nu_d (dg_t cp) d))] = P ++ (W1 ++ [nu_d (dg_t cp) d]) := by rw [by_b_n (dg_lt (by omega)), List.append_assoc]
              rw [hds] at hP hD hL_6
              rw [dg_q2 hb2 f_33 f_103] at hl
              exact ih_29 (k1 - 1, y, W1 ++ [nu_d (dg_t cp) d], u_4) H locs ls ⟨hP.sub [0, 1] rfl, hD.sub [0, 1] (by decide) rfl, hS, lv_sub hl [1, 2, 3, 4, 0, 5] rfl, hL_6, hst.1, hst.2.1, (by rw [List.length_append]; show W1.length + 1 + (k1 - 1) ≤ 64; omega), (dg_le hpl hb2), (by omega)⟩ (by dsimp only; omega)
            · skip
              have f_103 : dg_p b k1 = 1 := (dg_c1 hpl).mp c_103
              refine lv_lconst (v := 0) hx hb d_Mo_digits_106 (by decide) ?_
              refine lv_goto (tgt := 116) hx hb d_Mo_digits_107 (by decide) ?_
              refine lv_lstore (lv' := [(5, .long 0), (0, .ref mo), (1, .long (lN n)), (3, .int (nI b)), (4, .int (by_z cp)), (7, .long (lN y)), (9, .int (nI d))]) hx hb d_Mo_digits_116 hl (by decide) rfl (fun ls hl => ?_)
              refine lv_goto (tgt := 29) hx hb d_Mo_digits_118 (by decide) ?_
              have hst := dg_st (t := dg_t cp) hb2 f_33 hE hx1 hy f_46
              have hds : (P ++ W1) ++ [by_b (nI (nu_d (dg_t cp) d))] = P ++ (W1 ++ [nu_d (dg_t cp) d]) := by rw [by_b_n (dg_lt (by omega)), List.append_assoc]
              rw [hds] at hP hD hL_6
              rw [dg_q1 hb2 f_33 f_103] at hl
              exact ih_29 (k1 - 1, y, W1 ++ [nu_d (dg_t cp) d], u_4) H locs ls ⟨hP.sub [0, 1] rfl, hD.sub [0, 1] (by decide) rfl, hS, lv_sub hl [1, 2, 3, 4, 0, 5] rfl, hL_6, hst.1, hst.2.1, (by rw [List.length_append]; show W1.length + 1 + (k1 - 1) ≤ 64; omega), (dg_le hpl hb2), (by omega)⟩ (by dsimp only; omega)
          · skip
            have hcp : cp = true := by_z_t rfl c_80
            refine lv_bipush (v := 65) hx hb d_Mo_digits_83 (by decide) ?_
            refine lv_goto (tgt := 90) hx hb d_Mo_digits_85 (by decide) ?_
            refine lv_iload hx hb d_Mo_digits_90 (lv_at hl 6 rfl) ?_
            refine lv_iadd hx hb d_Mo_digits_92 ?_
            refine lv_bipush (v := 10) hx hb d_Mo_digits_93 (by decide) ?_
            refine lv_isub hx hb d_Mo_digits_95 ?_
            rw [dg_v2 f_67 hcp]
            have hPc := hP.sub (ws' := [(mo, .inr (8, [.int th, .int fd, .ref rt, .int mn, .ref rk, .ref rv, .ref rw, .ref ro, .int md, .ref rr, .int (nI (P ++ W1).length), .ref ra, .long pz, .int kc, .ref rc, .ref rl, .ref rb, .int la, .int ca])), (ra, .inl (cB, 16400, .inl g))]) [0, 1] rfl
            have hKc := hK.sub (tys' := [(cB, .byte)]) [0] rfl
            have hDc := hD.sub (ws' := [(mo, .inr (8, [.int th, .int fd, .ref rt, .int mn, .ref rk, .ref rv, .ref rw, .ref ro, .int md, .ref rr, .int (nI (P ++ W1).length), .ref ra, .long pz, .int kc, .ref rc, .ref rl, .ref rb, .int la, .int ca])), (ra, .inl (cB, 16400, .inl g))]) [0, 1] (by decide) rfl
            have hFc := va_free (wc := [(mo, .inr (8, [.int th, .int fd, .ref rt, .int mn, .ref rk, .ref rv, .ref rw, .ref ro, .int md, .ref rr, .int (nI (P ++ W1).length), .ref ra, .long pz, .int kc, .ref rc, .ref rl, .ref rb, .int la, .int ca])), (ra, .inl (cB, 16400, .inl g))]) hD hS hA [0, 1] rfl
            refine zz_callv (va_runV (As := [.int (nI (nu_d (dg_t cp) d))]) (rest := []) ⟨hx, hb, hml, hown, hg⟩ (c_Mo_put l dC dI mo rt rk rv rw ro rr ra rc rl rb th fd mn md (nI (P ++ W1).length) pz kc la ca cB g (P ++ W1) (nI (nu_d (dg_t cp) d)) hLW (by (try simp only [List.length_append, List.length_cons, List.length_nil]); omega) H.size) (cwV 1 hg (gi_V kw_863 kw_865 sw_16 kw_9 kw_866) rfl rfl rfl (by decide +kernel) ⟨Nat.le_of_ble_eq_true rfl, Nat.le_of_ble_eq_true rfl⟩) (zz_preV hPc hKc hDc _ (q0 := 0) (ci := 8) rfl rfl) rfl rfl hl.1 rfl (lv_room (Nat.le_of_ble_eq_true rfl)) d_Mo_digits_96 ⟨Nat.le_of_ble_eq_true rfl, Nat.le_of_ble_eq_true rfl⟩) hS hFc (fun u H1 k9 p9 d9 => va_join (wr := []) hP hD [0, 1] [] rfl rfl (by decide) (by decide) k9 hFc p9 d9) (fun u H locs hw hP hD hK1 hS => ?_)
            obtain ⟨u_8, rfl⟩ : ∃ z, z = u := ⟨_, rfl⟩
            try dsimp only at hw
            have hP : va_P (dC, dI) vwCl [(mo, .inr (8, [.int th, .int fd, .ref rt, .int mn, .ref rk, .ref rv, .ref rw, .ref ro, .int md, .ref rr, .int (nI ((P ++ W1) ++ [by_b (nI (nu_d (dg_t cp) d))]).length), .ref ra, .long pz, .int kc, .ref rc, .ref rl, .ref rb, .int la, .int ca])), (ra, .inl (cB, 16400, .inl u_8))] H := hP
            have hD : va_D A [(mo, .inr (8, [.int th, .int fd, .ref rt, .int mn, .ref rk, .ref rv, .ref rw, .ref ro, .int md, .ref rr, .int (nI ((P ++ W1) ++ [by_b (nI (nu_d (dg_t cp) d))]).length), .ref ra, .long pz, .int kc, .ref rc, .ref rl, .ref rb, .int la, .int ca])), (ra, .inl (cB, 16400, .inl u_8))] := hD
            have hL_10 := hw
            refine lv_lload hx hb d_Mo_digits_99 (lv_at hl 4 rfl) ?_
            refine lv_lconst (v := 1) hx hb d_Mo_digits_101 (by decide) ?_
            refine W.lcmp hx hb d_Mo_digits_102 ?_
            refine lv_if_ne (tgt := 110) hx hb d_Mo_digits_103 (by decide) (fun c_103 => ?_) (fun c_103 => ?_)
            · skip
              have f_103 : dg_p b k1 ≠ 1 := fun z => c_103 ((dg_c1 hpl).mpr z)
              refine lv_lload hx hb d_Mo_digits_110 (lv_at hl 4 rfl) ?_
              refine lv_iload_n hx hb d_Mo_digits_112 rfl (lv_at hl 2 rfl) ?_
              have hPc := hP.sub (ws' := []) [] rfl
              have hKc := hK.sub (tys' := []) [] rfl
              refine vp_callSl (W.runS (As := [.long (lN (dg_p b k1)), .int (nI b)]) (rest := []) ⟨hx, hb, hml, hown, hg⟩ (c_Mo_goes l dC dI (dg_p b k1) b hpl hb2 hb36) (va_cwS 2 hg (gi_S kw_875 kw_876 kw_9 kw_877) rfl rfl rfl (by decide +kernel) ⟨Nat.le_of_ble_eq_true rfl, Nat.le_of_ble_eq_true rfl⟩) (zz_prJS hPc hKc _) rfl rfl hl.1 rfl (lv_room (Nat.le_of_ble_eq_true rfl)) d_Mo_digits_113 ⟨Nat.le_of_ble_eq_true rfl, Nat.le_of_ble_eq_true rfl⟩) (fun r_11 hr_11 => ?_)
              subst hr_11
              refine lv_lstore (lv' := [(5, .long (lN (dg_p b k1 / b))), (0, .ref mo), (1, .long (lN n)), (3, .int (nI b)), (4, .int (by_z cp)), (7, .long (lN y)), (9, .int (nI d))]) hx hb d_Mo_digits_116 hl (by decide) rfl (fun ls hl => ?_)
              refine lv_goto (tgt := 29) hx hb d_Mo_digits_118 (by decide) ?_
              have hst := dg_st (t := dg_t cp) hb2 f_33 hE hx1 hy f_46
              have hds : (P ++ W1) ++ [by_b (nI (nu_d (dg_t cp) d))] = P ++ (W1 ++ [nu_d (dg_t cp) d]) := by rw [by_b_n (dg_lt (by omega)), List.append_assoc]
              rw [hds] at hP hD hL_10
              rw [dg_q2 hb2 f_33 f_103] at hl
              exact ih_29 (k1 - 1, y, W1 ++ [nu_d (dg_t cp) d], u_8) H locs ls ⟨hP.sub [0, 1] rfl, hD.sub [0, 1] (by decide) rfl, hS, lv_sub hl [1, 2, 3, 4, 0, 5] rfl, hL_10, hst.1, hst.2.1, (by rw [List.length_append]; show W1.length + 1 + (k1 - 1) ≤ 64; omega), (dg_le hpl hb2), (by omega)⟩ (by dsimp only; omega)
            · skip
              have f_103 : dg_p b k1 = 1 := (dg_c1 hpl).mp c_103
              refine lv_lconst (v := 0) hx hb d_Mo_digits_106 (by decide) ?_
              refine lv_goto (tgt := 116) hx hb d_Mo_digits_107 (by decide) ?_
              refine lv_lstore (lv' := [(5, .long 0), (0, .ref mo), (1, .long (lN n)), (3, .int (nI b)), (4, .int (by_z cp)), (7, .long (lN y)), (9, .int (nI d))]) hx hb d_Mo_digits_116 hl (by decide) rfl (fun ls hl => ?_)
              refine lv_goto (tgt := 29) hx hb d_Mo_digits_118 (by decide) ?_
              have hst := dg_st (t := dg_t cp) hb2 f_33 hE hx1 hy f_46
              have hds : (P ++ W1) ++ [by_b (nI (nu_d (dg_t cp) d))] = P ++ (W1 ++ [nu_d (dg_t cp) d]) := by rw [by_b_n (dg_lt (by omega)), List.append_assoc]
              rw [hds] at hP hD hL_10
              rw [dg_q1 hb2 f_33 f_103] at hl
              exact ih_29 (k1 - 1, y, W1 ++ [nu_d (dg_t cp) d], u_8) H locs ls ⟨hP.sub [0, 1] rfl, hD.sub [0, 1] (by decide) rfl, hS, lv_sub hl [1, 2, 3, 4, 0, 5] rfl, hL_10, hst.1, hst.2.1, (by rw [List.length_append]; show W1.length + 1 + (k1 - 1) ≤ 64; omega), (dg_le hpl hb2), (by omega)⟩ (by dsimp only; omega)
        · skip
          have f_67 : d < 10 := Nat.lt_of_not_le (fun z => c_67 (nI_le (a := 10) z (by omega)))
          refine lv_bipush (v := 48) hx hb d_Mo_digits_70 (by decide) ?_
          refine lv_iload hx hb d_Mo_digits_72 (lv_at hl 6 rfl) ?_
          refine lv_iadd hx hb d_Mo_digits_74 ?_
          refine lv_goto (tgt := 96) hx hb d_Mo_digits_75 (by decide) ?_
          rw [dg_v1 f_67]
          have hPc := hP.sub (ws' := [(mo, .inr (8, [.int th, .int fd, .ref rt, .int mn, .ref rk, .ref rv, .ref rw, .ref ro, .int md, .ref rr, .int (nI (P ++ W1).length), .ref ra, .long pz, .int kc, .ref rc, .ref rl, .ref rb, .int la, .int ca])), (ra, .inl (cB, 16400, .inl g))]) [0, 1] rfl
          have hKc := hK.sub (tys' := [(cB, .byte)]) [0] rfl
          have hDc := hD.sub (ws' := [(mo, .inr (8, [.int th, .int fd, .ref rt, .int mn, .ref rk, .ref rv, .ref rw, .ref ro, .int md, .ref rr, .int (nI (P ++ W1).length), .ref ra, .long pz, .int kc, .ref rc, .ref rl, .ref rb, .int la, .int ca])), (ra, .inl (cB, 16400, .inl g))]) [0, 1] (by decide) rfl
          have hFc := va_free (wc := [(mo, .inr (8, [.int th, .int fd, .ref rt, .int mn, .ref rk, .ref rv, .ref rw, .ref ro, .int md, .ref rr, .int (nI (P ++ W1).length), .ref ra, .long pz, .int kc, .ref rc, .ref rl, .ref rb, .int la, .int ca])), (ra, .inl (cB, 16400, .inl g))]) hD hS hA [0, 1] rfl
          refine zz_callv (va_runV (As := [.int (nI (nu_d (dg_t cp) d))]) (rest := []) ⟨hx, hb, hml, hown, hg⟩ (c_Mo_put l dC dI mo rt rk rv rw ro rr ra rc rl rb th fd mn md (nI (P ++ W1).length) pz kc la ca cB g (P ++ W1) (nI (nu_d (dg_t cp) d)) hLW (by (try simp only [List.length_append, List.length_cons, List.length_nil]); omega) H.size) (cwV 1 hg (gi_V kw_863 kw_865 sw_16 kw_9 kw_866) rfl rfl rfl (by decide +kernel) ⟨Nat.le_of_ble_eq_true rfl, Nat.le_of_ble_eq_true rfl⟩) (zz_preV hPc hKc hDc _ (q0 := 0) (ci := 8) rfl rfl) rfl rfl hl.1 rfl (lv_room (Nat.le_of_ble_eq_true rfl)) d_Mo_digits_96 ⟨Nat.le_of_ble_eq_true rfl, Nat.le_of_ble_eq_true rfl⟩) hS hFc (fun u H1 k9 p9 d9 => va_join (wr := []) hP hD [0, 1] [] rfl rfl (by decide) (by decide) k9 hFc p9 d9) (fun u H locs hw hP hD hK1 hS => ?_)
          obtain ⟨u_12, rfl⟩ : ∃ z, z = u := ⟨_, rfl⟩
          try dsimp only at hw
          have hP : va_P (dC, dI) vwCl [(mo, .inr (8, [.int th, .int fd, .ref rt, .int mn, .ref rk, .ref rv, .ref rw, .ref ro, .int md, .ref rr, .int (nI ((P ++ W1) ++ [by_b (nI (nu_d (dg_t cp) d))]).length), .ref ra, .long pz, .int kc, .ref rc, .ref rl, .ref rb, .int la, .int ca])), (ra, .inl (cB, 16400, .inl u_12))] H := hP
          have hD : va_D A [(mo, .inr (8, [.int th, .int fd, .ref rt, .int mn, .ref rk, .ref rv, .ref rw, .ref ro, .int md, .ref rr, .int (nI ((P ++ W1) ++ [by_b (nI (nu_d (dg_t cp) d))]).length), .ref ra, .long pz, .int kc, .ref rc, .ref rl, .ref rb, .int la, .int ca])), (ra, .inl (cB, 16400, .inl u_12))] := hD
          have hL_14 := hw
          refine lv_lload hx hb d_Mo_digits_99 (lv_at hl 4 rfl) ?_
          refine lv_lconst (v := 1) hx hb d_Mo_digits_101 (by decide) ?_
          refine W.lcmp hx hb d_Mo_digits_102 ?_
          refine lv_if_ne (tgt := 110) hx hb d_Mo_digits_103 (by decide) (fun c_103 => ?_) (fun c_103 => ?_)
          · skip
            have f_103 : dg_p b k1 ≠ 1 := fun z => c_103 ((dg_c1 hpl).mpr z)
            refine lv_lload hx hb d_Mo_digits_110 (lv_at hl 4 rfl) ?_
            refine lv_iload_n hx hb d_Mo_digits_112 rfl (lv_at hl 2 rfl) ?_
            have hPc := hP.sub (ws' := []) [] rfl
            have hKc := hK.sub (tys' := []) [] rfl
            refine vp_callSl (W.runS (As := [.long (lN (dg_p b k1)), .int (nI b)]) (rest := []) ⟨hx, hb, hml, hown, hg⟩ (c_Mo_goes l dC dI (dg_p b k1) b hpl hb2 hb36) (va_cwS 2 hg (gi_S kw_875 kw_876 kw_9 kw_877) rfl rfl rfl (by decide +kernel) ⟨Nat.le_of_ble_eq_true rfl, Nat.le_of_ble_eq_true rfl⟩) (zz_prJS hPc hKc _) rfl rfl hl.1 rfl (lv_room (Nat.le_of_ble_eq_true rfl)) d_Mo_digits_113 ⟨Nat.le_of_ble_eq_true rfl, Nat.le_of_ble_eq_true rfl⟩) (fun r_15 hr_15 => ?_)
            subst hr_15
            refine lv_lstore (lv' := [(5, .long (lN (dg_p b k1 / b))), (0, .ref mo), (1, .long (lN n)), (3, .int (nI b)), (4, .int (by_z cp)), (7, .long (lN y)), (9, .int (nI d))]) hx hb d_Mo_digits_116 hl (by decide) rfl (fun ls hl => ?_)
            refine lv_goto (tgt := 29) hx hb d_Mo_digits_118 (by decide) ?_
            have hst := dg_st (t := dg_t cp) hb2 f_33 hE hx1 hy f_46
            have hds : (P ++ W1) ++ [by_b (nI (nu_d (dg_t cp) d))] = P ++ (W1 ++ [nu_d (dg_t cp) d]) := by rw [by_b_n (dg_lt (by omega)), List.append_assoc]
            rw [hds] at hP hD hL_14
            rw [dg_q2 hb2 f_33 f_103] at hl
            exact ih_29 (k1 - 1, y, W1 ++ [nu_d (dg_t cp) d], u_12) H locs ls ⟨hP.sub [0, 1] rfl, hD.sub [0, 1] (by decide) rfl, hS, lv_sub hl [1, 2, 3, 4, 0, 5] rfl, hL_14, hst.1, hst.2.1, (by rw [List.length_append]; show W1.length + 1 + (k1 - 1) ≤ 64; omega), (dg_le hpl hb2), (by omega)⟩ (by dsimp only; omega)
          · skip
            have f_103 : dg_p b k1 = 1 := (dg_c1 hpl).mp c_103
            refine lv_lconst (v := 0) hx hb d_Mo_digits_106 (by decide) ?_
            refine lv_goto (tgt := 116) hx hb d_Mo_digits_107 (by decide) ?_
            refine lv_lstore (lv' := [(5, .long 0), (0, .ref mo), (1, .long (lN n)), (3, .int (nI b)), (4, .int (by_z cp)), (7, .long (lN y)), (9, .int (nI d))]) hx hb d_Mo_digits_116 hl (by decide) rfl (fun ls hl => ?_)
            refine lv_goto (tgt := 29) hx hb d_Mo_digits_118 (by decide) ?_
            have hst := dg_st (t := dg_t cp) hb2 f_33 hE hx1 hy f_46
            have hds : (P ++ W1) ++ [by_b (nI (nu_d (dg_t cp) d))] = P ++ (W1 ++ [nu_d (dg_t cp) d]) := by rw [by_b_n (dg_lt (by omega)), List.append_assoc]
            rw [hds] at hP hD hL_14
            rw [dg_q1 hb2 f_33 f_103] at hl
            exact ih_29 (k1 - 1, y, W1 ++ [nu_d (dg_t cp) d], u_12) H locs ls ⟨hP.sub [0, 1] rfl, hD.sub [0, 1] (by decide) rfl, hS, lv_sub hl [1, 2, 3, 4, 0, 5] rfl, hL_14, hst.1, hst.2.1, (by rw [List.length_append]; show W1.length + 1 + (k1 - 1) ≤ 64; omega), (dg_le hpl hb2), (by omega)⟩ (by dsimp only; omega)
      · skip
        have f_46 : dg_p b k1 ≤ y := Nat.le_of_not_lt (of_decide_eq_false (by_z_f hr_3 c_46))
        refine lv_lload hx hb d_Mo_digits_49 (lv_at hl 5 rfl) ?_
        refine lv_lload hx hb d_Mo_digits_51 (lv_at hl 4 rfl) ?_
        refine lv_lsub hx hb d_Mo_digits_53 ?_
        refine lv_lstore (lv' := [(7, .long ((lN y) - (lN (dg_p b k1)))), (0, .ref mo), (1, .long (lN n)), (3, .int (nI b)), (4, .int (by_z cp)), (5, .long (lN (dg_p b k1))), (9, .int (nI d))]) hx hb d_Mo_digits_54 hl (by decide) rfl (fun ls hl => ?_)
        refine lv_iinc (v := (nI d) + 1) (lv' := [(9, .int ((nI d) + 1)), (7, .long ((lN y) - (lN (dg_p b k1)))), (0, .ref mo), (1, .long (lN n)), (3, .int (nI b)), (4, .int (by_z cp)), (5, .long (lN (dg_p b k1)))]) hx hb d_Mo_digits_56 hl (k := 6) rfl rfl (by decide) rfl (fun ls hl => ?_)
        refine lv_goto (tgt := 39) hx hb d_Mo_digits_59 (by decide) ?_
        rw [lN_sub f_46, nI_1] at hl
        exact ih_39 (y - dg_p b k1, d + 1) H locs ls ⟨hP.sub [0, 1] rfl, hD.sub [0, 1] (by decide) rfl, hS, lv_sub hl [2, 3, 4, 5, 6, 1, 0] rfl, (by rw [Nat.succ_mul]; omega)⟩ (by dsimp only; omega)
  · skip
    have f_13 : b ^ e1 ≤ n / b := Nat.le_of_not_lt (of_decide_eq_false (by_z_f hr_2 c_13))
    refine lv_lload hx hb d_Mo_digits_16 (lv_at hl 4 rfl) ?_
    refine lv_iload_n hx hb d_Mo_digits_18 rfl (lv_at hl 2 rfl) ?_
    refine lv_i2l hx hb d_Mo_digits_19 rfl ?_
    rw [show (nI b).toInt64 = lN b from nI_l (by omega)]
    refine lv_lmul hx hb d_Mo_digits_20 ?_
    refine lv_lstore (lv' := [(5, .long ((lN (b ^ e1)) * (lN b))), (0, .ref mo), (1, .long (lN n)), (3, .int (nI b)), (4, .int (by_z cp))]) hx hb d_Mo_digits_21 hl (by decide) rfl (fun ls hl => ?_)
    refine lv_goto (tgt := 3) hx hb d_Mo_digits_23 (by decide) ?_
    rw [show lN (b ^ e1) * lN b = lN (b ^ (e1 + 1)) by rw [lN_mul, Nat.pow_succ]] at hl
    exact ih_3 (e1 + 1) H locs ls ⟨hP.sub [0, 1] rfl, hD.sub [0, 1] (by decide) rfl, hS, lv_sub hl [1, 2, 3, 4, 0] rfl, (dg_l1 hb2 hn f_13).2, (Or.inr (dg_l1 hb2 hn f_13).1)⟩ (by dsimp only; omega)
abbrev y_Mo_isBelow : MethodName := ⟨"TextForgeModel", "isBelow", "(I)Z"⟩
abbrev w_Mo_isBelow : List Cond := Cond.code y_Mo_isBelow prog_12_method_27_code 2 (some .boolean) :: gw
theorem d_Mo_isBelow_0 : decode prog_12_method_27_code 0 = .ok (.aload_n 0, 1) := by decide +kernel
theorem d_Mo_isBelow_1 : decode prog_12_method_27_code 1 = .ok (.getfield 13, 3) := by decide +kernel
theorem d_Mo_isBelow_4 : decode prog_12_method_27_code 4 = .ok (.iload_n 1, 1) := by decide +kernel
theorem d_Mo_isBelow_5 : decode prog_12_method_27_code 5 = .ok (.iaload, 1) := by decide +kernel
theorem d_Mo_isBelow_6 : decode prog_12_method_27_code 6 = .ok (.ifCond .ne 18, 3) := by decide +kernel
theorem d_Mo_isBelow_9 : decode prog_12_method_27_code 9 = .ok (.aload_n 0, 1) := by decide +kernel
theorem d_Mo_isBelow_10 : decode prog_12_method_27_code 10 = .ok (.getfield 17, 3) := by decide +kernel
theorem d_Mo_isBelow_13 : decode prog_12_method_27_code 13 = .ok (.iload_n 1, 1) := by decide +kernel
theorem d_Mo_isBelow_14 : decode prog_12_method_27_code 14 = .ok (.laload, 1) := by decide +kernel
theorem d_Mo_isBelow_15 : decode prog_12_method_27_code 15 = .ok (.lconst 0, 1) := by decide +kernel
theorem d_Mo_isBelow_16 : decode prog_12_method_27_code 16 = .ok (.lcmp, 1) := by decide +kernel
theorem d_Mo_isBelow_17 : decode prog_12_method_27_code 17 = .ok (.ifCond .ge 7, 3) := by decide +kernel
theorem d_Mo_isBelow_20 : decode prog_12_method_27_code 20 = .ok (.iconst 1, 1) := by decide +kernel
theorem d_Mo_isBelow_21 : decode prog_12_method_27_code 21 = .ok (.goto 4, 3) := by decide +kernel
theorem d_Mo_isBelow_24 : decode prog_12_method_27_code 24 = .ok (.iconst 0, 1) := by decide +kernel
theorem d_Mo_isBelow_25 : decode prog_12_method_27_code 25 = .ok (.ireturn, 1) := by decide +kernel
set_option maxHeartbeats 4000000 in
set_option maxRecDepth 100000 in
theorem c_Mo_isBelow (l : Launch) (dC : Nat → ClassId) (dI : Nat → Nat → Nat) (mo rt rk rv rw ro rr ra rc rl rb : Nat) (th fd mn md pt : Int32) (pz : Int64) (kc la ca : Int32) (cI cL : ClassId) (fk : Nat → Int32) (fv : Nat → Int64) (j : Nat) (hj : j < 16) : zR_i l y_Mo_isBelow w_Mo_isBelow { frames := 0, cells := 0, slots := 0, locals := 0 } (dC, dI) vwCl [.ref mo, .int (nI j)] [(mo, .inr (8, [.int th, .int fd, .ref rt, .int mn, .ref rk, .ref rv, .ref rw, .ref ro, .int md, .ref rr, .int pt, .ref ra, .long pz, .int kc, .ref rc, .ref rl, .ref rb, .int la, .int ca])), (rk, .inl (cI, 16, .inl fk)), (rv, .inl (cL, 16, .inr (.inl fv)))] [(cI, .int), (cL, .long)] (fun r : Int32 => r = by_z (ar_b (fk j) (fv j))) := by
  refine zz_enterR (cc := prog_12_method_27_code) (nL := 2) (ret := (some .boolean)) (by decide) rfl (Nat.le_of_ble_eq_true rfl) ?_
  intro p e s m below meth c ls C0 hP hK hl
  obtain ⟨hx, hb, hml, hown, hg, hr, hlocks, hin⟩ := C0
  have hS : va_S (fun _ => False) s.heap s.heap [] := va_S.rf
  have hown : s.vm.findClass "TextForgeModel" = some m.cls := hown
  have hP : va_P (dC, dI) vwCl [(mo, .inr (8, [.int th, .int fd, .ref rt, .int mn, .ref rk, .ref rv, .ref rw, .ref ro, .int md, .ref rr, .int pt, .ref ra, .long pz, .int kc, .ref rc, .ref rl, .ref rb, .int la, .int ca])), (rk, .inl (cI, 16, .inl fk)), (rv, .inl (cL, 16, .inr (.inl fv)))] s.heap := hP
  have hK : va_K (dC, dI) vwCl [(cI, .int), (cL, .long)] s := hK
  have hl : lv_has ls 2 [(0, .ref mo), (1, .int (nI j))] := hl
  refine lv_aload_n hx hb d_Mo_isBelow_0 rfl (lv_at hl 0 rfl) ?_
  refine va_get (D := (dC, dI)) (ci := 8) (v := .ref rk) (C := "TextForgeModel") (T := TX8) (N := 19) hx hb hg iwX8 hown hK hP 0 rfl rfl 4 (by decide) (hg _ kw_730) (fun _ h9 => h9) rfl d_Mo_isBelow_1 ?_
  refine lv_iload_n hx hb d_Mo_isBelow_4 rfl (lv_at hl 1 rfl) ?_
  refine va_iald hx hb hK hP 1 0 rfl rfl (vp_in_nI hj (by decide)) d_Mo_isBelow_5 ?_
  rw [nI_clamp (show j < 2 ^ 31 by omega)]
  refine lv_if_ne (tgt := 24) hx hb d_Mo_isBelow_6 (by decide) (fun c_6 => ?_) (fun c_6 => ?_)
  · skip
    refine lv_iconst (v := 0) hx hb d_Mo_isBelow_24 (by decide) ?_
    exact zz_zretR hx hb hr hlocks d_Mo_isBelow_25 rfl (by unfold ar_b; rw [decide_eq_false (fun z => c_6 z.1)]; rfl)
  · skip
    refine lv_aload_n hx hb d_Mo_isBelow_9 rfl (lv_at hl 0 rfl) ?_
    refine va_get (D := (dC, dI)) (ci := 8) (v := .ref rv) (C := "TextForgeModel") (T := TX8) (N := 19) hx hb hg iwX8 hown hK hP 0 rfl rfl 5 (by decide) (hg _ kw_731) (fun _ h9 => h9) rfl d_Mo_isBelow_10 ?_
    refine lv_iload_n hx hb d_Mo_isBelow_13 rfl (lv_at hl 1 rfl) ?_
    refine va_lald hx hb hK hP 2 1 rfl rfl (vp_in_nI hj (by decide)) d_Mo_isBelow_14 ?_
    rw [nI_clamp (show j < 2 ^ 31 by omega)]
    refine lv_lconst (v := 0) hx hb d_Mo_isBelow_15 (by decide) ?_
    refine W.lcmp hx hb d_Mo_isBelow_16 ?_
    refine lv_if_ge (tgt := 24) hx hb d_Mo_isBelow_17 (by decide) (fun c_17 => ?_) (fun c_17 => ?_)
    · skip
      refine lv_iconst (v := 0) hx hb d_Mo_isBelow_24 (by decide) ?_
      exact zz_zretR hx hb hr hlocks d_Mo_isBelow_25 rfl (by unfold ar_b; rw [decide_eq_false (fun z => ar_n1 c_17 z.2)]; rfl)
    · skip
      refine lv_iconst (v := 1) hx hb d_Mo_isBelow_20 (by decide) ?_
      refine lv_goto (tgt := 25) hx hb d_Mo_isBelow_21 (by decide) ?_
      exact zz_zretR hx hb hr hlocks d_Mo_isBelow_25 rfl (by unfold ar_b; rw [decide_eq_true ⟨c_6, ar_n2 c_17⟩]; rfl)
abbrev y_Mo_sized : MethodName := ⟨"TextForgeModel", "sized", "(IIZ)V"⟩
abbrev w_Mo_sized : List Cond := Cond.code y_Mo_sized prog_12_method_26_code 4 none :: gw
theorem d_Mo_sized_0 : decode prog_12_method_26_code 0 = .ok (.aload_n 0, 1) := by decide +kernel
theorem d_Mo_sized_1 : decode prog_12_method_26_code 1 = .ok (.aload_n 0, 1) := by decide +kernel
theorem d_Mo_sized_2 : decode prog_12_method_26_code 2 = .ok (.getfield 13, 3) := by decide +kernel
theorem d_Mo_sized_5 : decode prog_12_method_26_code 5 = .ok (.iload_n 1, 1) := by decide +kernel
theorem d_Mo_sized_6 : decode prog_12_method_26_code 6 = .ok (.iaload, 1) := by decide +kernel
theorem d_Mo_sized_7 : decode prog_12_method_26_code 7 = .ok (.ifCond .ne 24, 3) := by decide +kernel
theorem d_Mo_sized_10 : decode prog_12_method_26_code 10 = .ok (.aload_n 0, 1) := by decide +kernel
theorem d_Mo_sized_11 : decode prog_12_method_26_code 11 = .ok (.getfield 17, 3) := by decide +kernel
theorem d_Mo_sized_14 : decode prog_12_method_26_code 14 = .ok (.iload_n 1, 1) := by decide +kernel
theorem d_Mo_sized_15 : decode prog_12_method_26_code 15 = .ok (.laload, 1) := by decide +kernel
theorem d_Mo_sized_16 : decode prog_12_method_26_code 16 = .ok (.lconst 0, 1) := by decide +kernel
theorem d_Mo_sized_17 : decode prog_12_method_26_code 17 = .ok (.lcmp, 1) := by decide +kernel
theorem d_Mo_sized_18 : decode prog_12_method_26_code 18 = .ok (.ifCond .ge 13, 3) := by decide +kernel
theorem d_Mo_sized_21 : decode prog_12_method_26_code 21 = .ok (.aload_n 0, 1) := by decide +kernel
theorem d_Mo_sized_22 : decode prog_12_method_26_code 22 = .ok (.getfield 17, 3) := by decide +kernel
theorem d_Mo_sized_25 : decode prog_12_method_26_code 25 = .ok (.iload_n 1, 1) := by decide +kernel
theorem d_Mo_sized_26 : decode prog_12_method_26_code 26 = .ok (.laload, 1) := by decide +kernel
theorem d_Mo_sized_27 : decode prog_12_method_26_code 27 = .ok (.lneg, 1) := by decide +kernel
theorem d_Mo_sized_28 : decode prog_12_method_26_code 28 = .ok (.goto 9, 3) := by decide +kernel
theorem d_Mo_sized_31 : decode prog_12_method_26_code 31 = .ok (.aload_n 0, 1) := by decide +kernel
theorem d_Mo_sized_32 : decode prog_12_method_26_code 32 = .ok (.getfield 17, 3) := by decide +kernel
theorem d_Mo_sized_35 : decode prog_12_method_26_code 35 = .ok (.iload_n 1, 1) := by decide +kernel
theorem d_Mo_sized_36 : decode prog_12_method_26_code 36 = .ok (.laload, 1) := by decide +kernel
theorem d_Mo_sized_37 : decode prog_12_method_26_code 37 = .ok (.iload_n 2, 1) := by decide +kernel
theorem d_Mo_sized_38 : decode prog_12_method_26_code 38 = .ok (.iload_n 3, 1) := by decide +kernel
theorem d_Mo_sized_39 : decode prog_12_method_26_code 39 = .ok (.invokevirtual 129, 3) := by decide +kernel
theorem d_Mo_sized_42 : decode prog_12_method_26_code 42 = .ok (.return_, 1) := by decide +kernel
set_option maxHeartbeats 4000000 in
set_option maxRecDepth 100000 in
theorem c_Mo_sized (l : Launch) (dC : Nat → ClassId) (dI : Nat → Nat → Nat) (mo rt rk rv rw ro rr ra rc rl rb : Nat) (th fd mn md pt : Int32) (pz : Int64) (kc la ca : Int32) (cB : ClassId) (fa : Nat → Int32) (P : List Nat) (cI cL : ClassId) (fk : Nat → Int32) (fv : Nat → Int64) (j : Nat) (b : Nat) (cp : Bool) (hLa : by_L P fa) (hpa : P.length + 64 ≤ 16400) (hj : j < 16) (hb2 : 2 ≤ b) (hb36 : b ≤ 36) : zM_v (S := Nat → Int32) l y_Mo_sized w_Mo_sized { frames := 3, cells := 0, slots := 0, locals := 76 } (dC, dI) vwCl [.ref mo, .int (nI j), .int (nI b), .int (by_z cp)] [(mo, .inr (8, [.int th, .int fd, .ref rt, .int mn, .ref rk, .ref rv, .ref rw, .ref ro, .int md, .ref rr, .int (nI P.length), .ref ra, .long pz, .int kc, .ref rc, .ref rl, .ref rb, .int la, .int ca])), (ra, .inl (cB, 16400, .inl fa)), (rk, .inl (cI, 16, .inl fk)), (rv, .inl (cL, 16, .inr (.inl fv)))] [(cB, .byte), (cI, .int), (cL, .long)] (fun (u : Nat → Int32) => by_L (P ++ (nu_f b (dg_t cp) 64 (ar_m (fk j) (fv j))).reverse) u) (fun u => [(mo, .inr (8, [.int th, .int fd, .ref rt, .int mn, .ref rk, .ref rv, .ref rw, .ref ro, .int md, .ref rr, .int (nI (P ++ (nu_f b (dg_t cp) 64 (ar_m (fk j) (fv j))).reverse).length), .ref ra, .long pz, .int kc, .ref rc, .ref rl, .ref rb, .int la, .int ca])), (ra, .inl (cB, 16400, .inl u)), (rk, .inl (cI, 16, .inl fk)), (rv, .inl (cL, 16, .inr (.inl fv)))]) (fun u => [(cB, .byte), (cI, .int), (cL, .long)]) 0 0 := by
  refine zz_enterv (cc := prog_12_method_26_code) (nL := 4) (ret := none) (by decide) rfl (Nat.le_of_ble_eq_true rfl) ?_
  intro p e s m below meth c A ls C0 hA hS hP hK hD hl
  obtain ⟨hx, hb, hml, hown, hg, hr, hlocks, hin⟩ := C0
  have hown : s.vm.findClass "TextForgeModel" = some m.cls := hown
  have hP : va_P (dC, dI) vwCl [(mo, .inr (8, [.int th, .int fd, .ref rt, .int mn, .ref rk, .ref rv, .ref rw, .ref ro, .int md, .ref rr, .int (nI P.length), .ref ra, .long pz, .int kc, .ref rc, .ref rl, .ref rb, .int la, .int ca])), (ra, .inl (cB, 16400, .inl fa)), (rk, .inl (cI, 16, .inl fk)), (rv, .inl (cL, 16, .inr (.inl fv)))] s.heap := hP
  have hK : va_K (dC, dI) vwCl [(cB, .byte), (cI, .int), (cL, .long)] s := hK
  have hD : va_D A [(mo, .inr (8, [.int th, .int fd, .ref rt, .int mn, .ref rk, .ref rv, .ref rw, .ref ro, .int md, .ref rr, .int (nI P.length), .ref ra, .long pz, .int kc, .ref rc, .ref rl, .ref rb, .int la, .int ca])), (ra, .inl (cB, 16400, .inl fa)), (rk, .inl (cI, 16, .inl fk)), (rv, .inl (cL, 16, .inr (.inl fv)))] := hD
  have hl : lv_has ls 4 [(0, .ref mo), (1, .int (nI j)), (2, .int (nI b)), (3, .int (by_z cp))] := hl
  refine lv_aload_n hx hb d_Mo_sized_0 rfl (lv_at hl 0 rfl) ?_
  refine lv_aload_n hx hb d_Mo_sized_1 rfl (lv_at hl 0 rfl) ?_
  refine va_get (D := (dC, dI)) (ci := 8) (v := .ref rk) (C := "TextForgeModel") (T := TX8) (N := 19) hx hb hg iwX8 hown hK hP 0 rfl rfl 4 (by decide) (hg _ kw_730) (fun _ h9 => h9) rfl d_Mo_sized_2 ?_
  refine lv_iload_n hx hb d_Mo_sized_5 rfl (lv_at hl 1 rfl) ?_
  refine va_iald hx hb hK hP 2 1 rfl rfl (vp_in_nI hj (by decide)) d_Mo_sized_6 ?_
  rw [nI_clamp (show j < 2 ^ 31 by omega)]
  refine lv_if_ne (tgt := 31) hx hb d_Mo_sized_7 (by decide) (fun c_7 => ?_) (fun c_7 => ?_)
  · skip
    have hab : ar_b (fk j) (fv j) = false := decide_eq_false (fun z => c_7 z.1)
    refine lv_aload_n hx hb d_Mo_sized_31 rfl (lv_at hl 0 rfl) ?_
    refine va_get (D := (dC, dI)) (ci := 8) (v := .ref rv) (C := "TextForgeModel") (T := TX8) (N := 19) hx hb hg iwX8 hown hK hP 0 rfl rfl 5 (by decide) (hg _ kw_731) (fun _ h9 => h9) rfl d_Mo_sized_32 ?_
    refine lv_iload_n hx hb d_Mo_sized_35 rfl (lv_at hl 1 rfl) ?_
    refine va_lald hx hb hK hP 3 2 rfl rfl (vp_in_nI hj (by decide)) d_Mo_sized_36 ?_
    rw [nI_clamp (show j < 2 ^ 31 by omega)]
    refine lv_topl (fun y0 ey0 => ?_)
    have ey0 := ey0.trans (ar_m0 hab)
    subst ey0
    refine lv_iload_n hx hb d_Mo_sized_37 rfl (lv_at hl 2 rfl) ?_
    refine lv_iload_n hx hb d_Mo_sized_38 rfl (lv_at hl 3 rfl) ?_
    have hPc := hP.sub (ws' := [(mo, .inr (8, [.int th, .int fd, .ref rt, .int mn, .ref rk, .ref rv, .ref rw, .ref ro, .int md, .ref rr, .int (nI P.length), .ref ra, .long pz, .int kc, .ref rc, .ref rl, .ref rb, .int la, .int ca])), (ra, .inl (cB, 16400, .inl fa))]) [0, 1] rfl
    have hKc := hK.sub (tys' := [(cB, .byte)]) [0] rfl
    have hDc := hD.sub (ws' := [(mo, .inr (8, [.int th, .int fd, .ref rt, .int mn, .ref rk, .ref rv, .ref rw, .ref ro, .int md, .ref rr, .int (nI P.length), .ref ra, .long pz, .int kc, .ref rc, .ref rl, .ref rb, .int la, .int ca])), (ra, .inl (cB, 16400, .inl fa))]) [0, 1] (by decide) rfl
    have hFc := va_free (wc := [(mo, .inr (8, [.int th, .int fd, .ref rt, .int mn, .ref rk, .ref rv, .ref rw, .ref ro, .int md, .ref rr, .int (nI P.length), .ref ra, .long pz, .int kc, .ref rc, .ref rl, .ref rb, .int la, .int ca])), (ra, .inl (cB, 16400, .inl fa))]) hD hS hA [0, 1] rfl
    refine zz_callv (va_runV (As := [.long (lN (ar_m (fk j) (fv j))), .int (nI b), .int (by_z cp)]) (rest := []) ⟨hx, hb, hml, hown, hg⟩ (c_Mo_digits l dC dI mo rt rk rv rw ro rr ra rc rl rb th fd mn md (nI P.length) pz kc la ca cB fa P (ar_m (fk j) (fv j)) b cp hLa (by (try simp only [List.length_append, List.length_cons, List.length_nil]); omega) (ar_m_lt _ _) hb2 hb36 s.heap.size) (cwV 3 hg (gi_V kw_871 kw_873 sw_18 kw_9 kw_874) rfl rfl rfl (by decide +kernel) ⟨Nat.le_of_ble_eq_true rfl, Nat.le_of_ble_eq_true rfl⟩) (zz_preV hPc hKc hDc _ (q0 := 0) (ci := 8) rfl rfl) rfl rfl hl.1 rfl (lv_room (Nat.le_of_ble_eq_true rfl)) d_Mo_sized_39 ⟨Nat.le_of_ble_eq_true rfl, Nat.le_of_ble_eq_true rfl⟩) hS hFc (fun u H1 k9 p9 d9 => va_join (wr := [(rk, .inl (cI, 16, .inl fk)), (rv, .inl (cL, 16, .inr (.inl fv)))]) hP hD [0, 1] [2, 3] rfl rfl (by decide) (by decide) k9 hFc p9 d9) (fun u H locs hw hP hD hK1 hS => ?_)
    obtain ⟨u_1, rfl⟩ : ∃ z, z = u := ⟨_, rfl⟩
    try dsimp only at hw
    have hP : va_P (dC, dI) vwCl [(rk, .inl (cI, 16, .inl fk)), (rv, .inl (cL, 16, .inr (.inl fv))), (mo, .inr (8, [.int th, .int fd, .ref rt, .int mn, .ref rk, .ref rv, .ref rw, .ref ro, .int md, .ref rr, .int (nI (P ++ (nu_f b (dg_t cp) 64 (ar_m (fk j) (fv j))).reverse).length), .ref ra, .long pz, .int kc, .ref rc, .ref rl, .ref rb, .int la, .int ca])), (ra, .inl (cB, 16400, .inl u_1))] H := hP
    have hD : va_D A [(rk, .inl (cI, 16, .inl fk)), (rv, .inl (cL, 16, .inr (.inl fv))), (mo, .inr (8, [.int th, .int fd, .ref rt, .int mn, .ref rk, .ref rv, .ref rw, .ref ro, .int md, .ref rr, .int (nI (P ++ (nu_f b (dg_t cp) 64 (ar_m (fk j) (fv j))).reverse).length), .ref ra, .long pz, .int kc, .ref rc, .ref rl, .ref rb, .int la, .int ca])), (ra, .inl (cB, 16400, .inl u_1))] := hD
    have hL_3 := hw
    have hP9 := hP.sub (ws' := [(mo, .inr (8, [.int th, .int fd, .ref rt, .int mn, .ref rk, .ref rv, .ref rw, .ref ro, .int md, .ref rr, .int (nI (P ++ (nu_f b (dg_t cp) 64 (ar_m (fk j) (fv j))).reverse).length), .ref ra, .long pz, .int kc, .ref rc, .ref rl, .ref rb, .int la, .int ca])), (ra, .inl (cB, 16400, .inl u_1)), (rk, .inl (cI, 16, .inl fk)), (rv, .inl (cL, 16, .inr (.inl fv)))]) [2, 3, 0, 1] rfl
    have hD9 := hD.sub (ws' := [(mo, .inr (8, [.int th, .int fd, .ref rt, .int mn, .ref rk, .ref rv, .ref rw, .ref ro, .int md, .ref rr, .int (nI (P ++ (nu_f b (dg_t cp) 64 (ar_m (fk j) (fv j))).reverse).length), .ref ra, .long pz, .int kc, .ref rc, .ref rl, .ref rb, .int la, .int ca])), (ra, .inl (cB, 16400, .inl u_1)), (rk, .inl (cI, 16, .inl fk)), (rv, .inl (cL, 16, .inr (.inl fv)))]) [2, 3, 0, 1] (by decide) rfl
    have hK9 := hK.sub (tys' := [(cB, .byte), (cI, .int), (cL, .long)]) [0, 1, 2] rfl
    rw [show (P ++ (nu_f b (dg_t cp) 64 (ar_m (fk j) (fv j))).reverse) = (P ++ (nu_f b (dg_t cp) 64 (ar_m (fk j) (fv j))).reverse) from rfl] at hP9 hD9
    exact zz_vret hx hb hr hlocks d_Mo_sized_42 hS (by first | exact Nat.le_refl _ | decide | omega | (dsimp only; omega)) (by first | exact Nat.le_refl _ | decide | omega | (dsimp only; omega)) u_1 (by rw [show (P ++ (nu_f b (dg_t cp) 64 (ar_m (fk j) (fv j))).reverse) = (P ++ (nu_f b (dg_t cp) 64 (ar_m (fk j) (fv j))).reverse) from rfl] at hL_3; exact hL_3) hP9 hK9 hD9
  · skip
    refine lv_aload_n hx hb d_Mo_sized_10 rfl (lv_at hl 0 rfl) ?_
    refine va_get (D := (dC, dI)) (ci := 8) (v := .ref rv) (C := "TextForgeModel") (T := TX8) (N := 19) hx hb hg iwX8 hown hK hP 0 rfl rfl 5 (by decide) (hg _ kw_731) (fun _ h9 => h9) rfl d_Mo_sized_11 ?_
    refine lv_iload_n hx hb d_Mo_sized_14 rfl (lv_at hl 1 rfl) ?_
    refine va_lald hx hb hK hP 3 2 rfl rfl (vp_in_nI hj (by decide)) d_Mo_sized_15 ?_
    rw [nI_clamp (show j < 2 ^ 31 by omega)]
    refine lv_lconst (v := 0) hx hb d_Mo_sized_16 (by decide) ?_
    refine W.lcmp hx hb d_Mo_sized_17 ?_
    refine lv_if_ge (tgt := 31) hx hb d_Mo_sized_18 (by decide) (fun c_18 => ?_) (fun c_18 => ?_)
    · skip
      have hab : ar_b (fk j) (fv j) = false := decide_eq_false (fun z => ar_n1 c_18 z.2)
      refine lv_aload_n hx hb d_Mo_sized_31 rfl (lv_at hl 0 rfl) ?_
      refine va_get (D := (dC, dI)) (ci := 8) (v := .ref rv) (C := "TextForgeModel") (T := TX8) (N := 19) hx hb hg iwX8 hown hK hP 0 rfl rfl 5 (by decide) (hg _ kw_731) (fun _ h9 => h9) rfl d_Mo_sized_32 ?_
      refine lv_iload_n hx hb d_Mo_sized_35 rfl (lv_at hl 1 rfl) ?_
      refine va_lald hx hb hK hP 3 2 rfl rfl (vp_in_nI hj (by decide)) d_Mo_sized_36 ?_
      rw [nI_clamp (show j < 2 ^ 31 by omega)]
      refine lv_topl (fun y0 ey0 => ?_)
      have ey0 := ey0.trans (ar_m0 hab)
      subst ey0
      refine lv_iload_n hx hb d_Mo_sized_37 rfl (lv_at hl 2 rfl) ?_
      refine lv_iload_n hx hb d_Mo_sized_38 rfl (lv_at hl 3 rfl) ?_
      have hPc := hP.sub (ws' := [(mo, .inr (8, [.int th, .int fd, .ref rt, .int mn, .ref rk, .ref rv, .ref rw, .ref ro, .int md, .ref rr, .int (nI P.length), .ref ra, .long pz, .int kc, .ref rc, .ref rl, .ref rb, .int la, .int ca])), (ra, .inl (cB, 16400, .inl fa))]) [0, 1] rfl
      have hKc := hK.sub (tys' := [(cB, .byte)]) [0] rfl
      have hDc := hD.sub (ws' := [(mo, .inr (8, [.int th, .int fd, .ref rt, .int mn, .ref rk, .ref rv, .ref rw, .ref ro, .int md, .ref rr, .int (nI P.length), .ref ra, .long pz, .int kc, .ref rc, .ref rl, .ref rb, .int la, .int ca])), (ra, .inl (cB, 16400, .inl fa))]) [0, 1] (by decide) rfl
      have hFc := va_free (wc := [(mo, .inr (8, [.int th, .int fd, .ref rt, .int mn, .ref rk, .ref rv, .ref rw, .ref ro, .int md, .ref rr, .int (nI P.length), .ref ra, .long pz, .int kc, .ref rc, .ref rl, .ref rb, .int la, .int ca])), (ra, .inl (cB, 16400, .inl fa))]) hD hS hA [0, 1] rfl
      refine zz_callv (va_runV (As := [.long (lN (ar_m (fk j) (fv j))), .int (nI b), .int (by_z cp)]) (rest := []) ⟨hx, hb, hml, hown, hg⟩ (c_Mo_digits l dC dI mo rt rk rv rw ro rr ra rc rl rb th fd mn md (nI P.length) pz kc la ca cB fa P (ar_m (fk j) (fv j)) b cp hLa (by (try simp only [List.length_append, List.length_cons, List.length_nil]); omega) (ar_m_lt _ _) hb2 hb36 s.heap.size) (cwV 3 hg (gi_V kw_871 kw_873 sw_18 kw_9 kw_874) rfl rfl rfl (by decide +kernel) ⟨Nat.le_of_ble_eq_true rfl, Nat.le_of_ble_eq_true rfl⟩) (zz_preV hPc hKc hDc _ (q0 := 0) (ci := 8) rfl rfl) rfl rfl hl.1 rfl (lv_room (Nat.le_of_ble_eq_true rfl)) d_Mo_sized_39 ⟨Nat.le_of_ble_eq_true rfl, Nat.le_of_ble_eq_true rfl⟩) hS hFc (fun u H1 k9 p9 d9 => va_join (wr := [(rk, .inl (cI, 16, .inl fk)), (rv, .inl (cL, 16, .inr (.inl fv)))]) hP hD [0, 1] [2, 3] rfl rfl (by decide) (by decide) k9 hFc p9 d9) (fun u H locs hw hP hD hK1 hS => ?_)
      obtain ⟨u_4, rfl⟩ : ∃ z, z = u := ⟨_, rfl⟩
      try dsimp only at hw
      have hP : va_P (dC, dI) vwCl [(rk, .inl (cI, 16, .inl fk)), (rv, .inl (cL, 16, .inr (.inl fv))), (mo, .inr (8, [.int th, .int fd, .ref rt, .int mn, .ref rk, .ref rv, .ref rw, .ref ro, .int md, .ref rr, .int (nI (P ++ (nu_f b (dg_t cp) 64 (ar_m (fk j) (fv j))).reverse).length), .ref ra, .long pz, .int kc, .ref rc, .ref rl, .ref rb, .int la, .int ca])), (ra, .inl (cB, 16400, .inl u_4))] H := hP
      have hD : va_D A [(rk, .inl (cI, 16, .inl fk)), (rv, .inl (cL, 16, .inr (.inl fv))), (mo, .inr (8, [.int th, .int fd, .ref rt, .int mn, .ref rk, .ref rv, .ref rw, .ref ro, .int md, .ref rr, .int (nI (P ++ (nu_f b (dg_t cp) 64 (ar_m (fk j) (fv j))).reverse).length), .ref ra, .long pz, .int kc, .ref rc, .ref rl, .ref rb, .int la, .int ca])), (ra, .inl (cB, 16400, .inl u_4))] := hD
      have hL_6 := hw
      have hP9 := hP.sub (ws' := [(mo, .inr (8, [.int th, .int fd, .ref rt, .int mn, .ref rk, .ref rv, .ref rw, .ref ro, .int md, .ref rr, .int (nI (P ++ (nu_f b (dg_t cp) 64 (ar_m (fk j) (fv j))).reverse).length), .ref ra, .long pz, .int kc, .ref rc, .ref rl, .ref rb, .int la, .int ca])), (ra, .inl (cB, 16400, .inl u_4)), (rk, .inl (cI, 16, .inl fk)), (rv, .inl (cL, 16, .inr (.inl fv)))]) [2, 3, 0, 1] rfl
      have hD9 := hD.sub (ws' := [(mo, .inr (8, [.int th, .int fd, .ref rt, .int mn, .ref rk, .ref rv, .ref rw, .ref ro, .int md, .ref rr, .int (nI (P ++ (nu_f b (dg_t cp) 64 (ar_m (fk j) (fv j))).reverse).length), .ref ra, .long pz, .int kc, .ref rc, .ref rl, .ref rb, .int la, .int ca])), (ra, .inl (cB, 16400, .inl u_4)), (rk, .inl (cI, 16, .inl fk)), (rv, .inl (cL, 16, .inr (.inl fv)))]) [2, 3, 0, 1] (by decide) rfl
      have hK9 := hK.sub (tys' := [(cB, .byte), (cI, .int), (cL, .long)]) [0, 1, 2] rfl
      rw [show (P ++ (nu_f b (dg_t cp) 64 (ar_m (fk j) (fv j))).reverse) = (P ++ (nu_f b (dg_t cp) 64 (ar_m (fk j) (fv j))).reverse) from rfl] at hP9 hD9
      exact zz_vret hx hb hr hlocks d_Mo_sized_42 hS (by first | exact Nat.le_refl _ | decide | omega | (dsimp only; omega)) (by first | exact Nat.le_refl _ | decide | omega | (dsimp only; omega)) u_4 (by rw [show (P ++ (nu_f b (dg_t cp) 64 (ar_m (fk j) (fv j))).reverse) = (P ++ (nu_f b (dg_t cp) 64 (ar_m (fk j) (fv j))).reverse) from rfl] at hL_6; exact hL_6) hP9 hK9 hD9
    · skip
      have hab : ar_b (fk j) (fv j) = true := decide_eq_true ⟨c_7, ar_n2 c_18⟩
      refine lv_aload_n hx hb d_Mo_sized_21 rfl (lv_at hl 0 rfl) ?_
      refine va_get (D := (dC, dI)) (ci := 8) (v := .ref rv) (C := "TextForgeModel") (T := TX8) (N := 19) hx hb hg iwX8 hown hK hP 0 rfl rfl 5 (by decide) (hg _ kw_731) (fun _ h9 => h9) rfl d_Mo_sized_22 ?_
      refine lv_iload_n hx hb d_Mo_sized_25 rfl (lv_at hl 1 rfl) ?_
      refine va_lald hx hb hK hP 3 2 rfl rfl (vp_in_nI hj (by decide)) d_Mo_sized_26 ?_
      rw [nI_clamp (show j < 2 ^ 31 by omega)]
      refine lv_lneg hx hb d_Mo_sized_27 ?_
      refine lv_goto (tgt := 37) hx hb d_Mo_sized_28 (by decide) ?_
      refine lv_topl (fun y0 ey0 => ?_)
      have ey0 := ey0.trans (ar_m1 hab)
      subst ey0
      refine lv_iload_n hx hb d_Mo_sized_37 rfl (lv_at hl 2 rfl) ?_
      refine lv_iload_n hx hb d_Mo_sized_38 rfl (lv_at hl 3 rfl) ?_
      have hPc := hP.sub (ws' := [(mo, .inr (8, [.int th, .int fd, .ref rt, .int mn, .ref rk, .ref rv, .ref rw, .ref ro, .int md, .ref rr, .int (nI P.length), .ref ra, .long pz, .int kc, .ref rc, .ref rl, .ref rb, .int la, .int ca])), (ra, .inl (cB, 16400, .inl fa))]) [0, 1] rfl
      have hKc := hK.sub (tys' := [(cB, .byte)]) [0] rfl
      have hDc := hD.sub (ws' := [(mo, .inr (8, [.int th, .int fd, .ref rt, .int mn, .ref rk, .ref rv, .ref rw, .ref ro, .int md, .ref rr, .int (nI P.length), .ref ra, .long pz, .int kc, .ref rc, .ref rl, .ref rb, .int la, .int ca])), (ra, .inl (cB, 16400, .inl fa))]) [0, 1] (by decide) rfl
      have hFc := va_free (wc := [(mo, .inr (8, [.int th, .int fd, .ref rt, .int mn, .ref rk, .ref rv, .ref rw, .ref ro, .int md, .ref rr, .int (nI P.length), .ref ra, .long pz, .int kc, .ref rc, .ref rl, .ref rb, .int la, .int ca])), (ra, .inl (cB, 16400, .inl fa))]) hD hS hA [0, 1] rfl
      refine zz_callv (va_runV (As := [.long (lN (ar_m (fk j) (fv j))), .int (nI b), .int (by_z cp)]) (rest := []) ⟨hx, hb, hml, hown, hg⟩ (c_Mo_digits l dC dI mo rt rk rv rw ro rr ra rc rl rb th fd mn md (nI P.length) pz kc la ca cB fa P (ar_m (fk j) (fv j)) b cp hLa (by (try simp only [List.length_append, List.length_cons, List.length_nil]); omega) (ar_m_lt _ _) hb2 hb36 s.heap.size) (cwV 3 hg (gi_V kw_871 kw_873 sw_18 kw_9 kw_874) rfl rfl rfl (by decide +kernel) ⟨Nat.le_of_ble_eq_true rfl, Nat.le_of_ble_eq_true rfl⟩) (zz_preV hPc hKc hDc _ (q0 := 0) (ci := 8) rfl rfl) rfl rfl hl.1 rfl (lv_room (Nat.le_of_ble_eq_true rfl)) d_Mo_sized_39 ⟨Nat.le_of_ble_eq_true rfl, Nat.le_of_ble_eq_true rfl⟩) hS hFc (fun u H1 k9 p9 d9 => va_join (wr := [(rk, .inl (cI, 16, .inl fk)), (rv, .inl (cL, 16, .inr (.inl fv)))]) hP hD [0, 1] [2, 3] rfl rfl (by decide) (by decide) k9 hFc p9 d9) (fun u H locs hw hP hD hK1 hS => ?_)
      obtain ⟨u_7, rfl⟩ : ∃ z, z = u := ⟨_, rfl⟩
      try dsimp only at hw
      have hP : va_P (dC, dI) vwCl [(rk, .inl (cI, 16, .inl fk)), (rv, .inl (cL, 16, .inr (.inl fv))), (mo, .inr (8, [.int th, .int fd, .ref rt, .int mn, .ref rk, .ref rv, .ref rw, .ref ro, .int md, .ref rr, .int (nI (P ++ (nu_f b (dg_t cp) 64 (ar_m (fk j) (fv j))).reverse).length), .ref ra, .long pz, .int kc, .ref rc, .ref rl, .ref rb, .int la, .int ca])), (ra, .inl (cB, 16400, .inl u_7))] H := hP
      have hD : va_D A [(rk, .inl (cI, 16, .inl fk)), (rv, .inl (cL, 16, .inr (.inl fv))), (mo, .inr (8, [.int th, .int fd, .ref rt, .int mn, .ref rk, .ref rv, .ref rw, .ref ro, .int md, .ref rr, .int (nI (P ++ (nu_f b (dg_t cp) 64 (ar_m (fk j) (fv j))).reverse).length), .ref ra, .long pz, .int kc, .ref rc, .ref rl, .ref rb, .int la, .int ca])), (ra, .inl (cB, 16400, .inl u_7))] := hD
      have hL_9 := hw
      have hP9 := hP.sub (ws' := [(mo, .inr (8, [.int th, .int fd, .ref rt, .int mn, .ref rk, .ref rv, .ref rw, .ref ro, .int md, .ref rr, .int (nI (P ++ (nu_f b (dg_t cp) 64 (ar_m (fk j) (fv j))).reverse).length), .ref ra, .long pz, .int kc, .ref rc, .ref rl, .ref rb, .int la, .int ca])), (ra, .inl (cB, 16400, .inl u_7)), (rk, .inl (cI, 16, .inl fk)), (rv, .inl (cL, 16, .inr (.inl fv)))]) [2, 3, 0, 1] rfl
      have hD9 := hD.sub (ws' := [(mo, .inr (8, [.int th, .int fd, .ref rt, .int mn, .ref rk, .ref rv, .ref rw, .ref ro, .int md, .ref rr, .int (nI (P ++ (nu_f b (dg_t cp) 64 (ar_m (fk j) (fv j))).reverse).length), .ref ra, .long pz, .int kc, .ref rc, .ref rl, .ref rb, .int la, .int ca])), (ra, .inl (cB, 16400, .inl u_7)), (rk, .inl (cI, 16, .inl fk)), (rv, .inl (cL, 16, .inr (.inl fv)))]) [2, 3, 0, 1] (by decide) rfl
      have hK9 := hK.sub (tys' := [(cB, .byte), (cI, .int), (cL, .long)]) [0, 1, 2] rfl
      rw [show (P ++ (nu_f b (dg_t cp) 64 (ar_m (fk j) (fv j))).reverse) = (P ++ (nu_f b (dg_t cp) 64 (ar_m (fk j) (fv j))).reverse) from rfl] at hP9 hD9
      exact zz_vret hx hb hr hlocks d_Mo_sized_42 hS (by first | exact Nat.le_refl _ | decide | omega | (dsimp only; omega)) (by first | exact Nat.le_refl _ | decide | omega | (dsimp only; omega)) u_7 (by rw [show (P ++ (nu_f b (dg_t cp) 64 (ar_m (fk j) (fv j))).reverse) = (P ++ (nu_f b (dg_t cp) 64 (ar_m (fk j) (fv j))).reverse) from rfl] at hL_9; exact hL_9) hP9 hK9 hD9
abbrev y_Mo_textOf : MethodName := ⟨"TextForgeModel", "textOf", "(I)V"⟩
abbrev w_Mo_textOf : List Cond := Cond.code y_Mo_textOf prog_12_method_29_code 3 none :: gw
theorem d_Mo_textOf_0 : decode prog_12_method_29_code 0 = .ok (.iconst 0, 1) := by decide +kernel
theorem d_Mo_textOf_1 : decode prog_12_method_29_code 1 = .ok (.istore_n 2, 1) := by decide +kernel
theorem d_Mo_textOf_2 : decode prog_12_method_29_code 2 = .ok (.iload_n 2, 1) := by decide +kernel
theorem d_Mo_textOf_3 : decode prog_12_method_29_code 3 = .ok (.aload_n 0, 1) := by decide +kernel
theorem d_Mo_textOf_4 : decode prog_12_method_29_code 4 = .ok (.getfield 21, 3) := by decide +kernel
theorem d_Mo_textOf_7 : decode prog_12_method_29_code 7 = .ok (.iload_n 1, 1) := by decide +kernel
theorem d_Mo_textOf_8 : decode prog_12_method_29_code 8 = .ok (.iaload, 1) := by decide +kernel
theorem d_Mo_textOf_9 : decode prog_12_method_29_code 9 = .ok (.if_icmp .ge 25, 3) := by decide +kernel
theorem d_Mo_textOf_12 : decode prog_12_method_29_code 12 = .ok (.aload_n 0, 1) := by decide +kernel
theorem d_Mo_textOf_13 : decode prog_12_method_29_code 13 = .ok (.aload_n 0, 1) := by decide +kernel
theorem d_Mo_textOf_14 : decode prog_12_method_29_code 14 = .ok (.getfield 25, 3) := by decide +kernel
theorem d_Mo_textOf_17 : decode prog_12_method_29_code 17 = .ok (.sipush 4096, 3) := by decide +kernel
theorem d_Mo_textOf_20 : decode prog_12_method_29_code 20 = .ok (.iload_n 1, 1) := by decide +kernel
theorem d_Mo_textOf_21 : decode prog_12_method_29_code 21 = .ok (.imul, 1) := by decide +kernel
theorem d_Mo_textOf_22 : decode prog_12_method_29_code 22 = .ok (.iload_n 2, 1) := by decide +kernel
theorem d_Mo_textOf_23 : decode prog_12_method_29_code 23 = .ok (.iadd, 1) := by decide +kernel
theorem d_Mo_textOf_24 : decode prog_12_method_29_code 24 = .ok (.baload, 1) := by decide +kernel
theorem d_Mo_textOf_25 : decode prog_12_method_29_code 25 = .ok (.invokevirtual 74, 3) := by decide +kernel
theorem d_Mo_textOf_28 : decode prog_12_method_29_code 28 = .ok (.iinc 2 1, 3) := by decide +kernel
theorem d_Mo_textOf_31 : decode prog_12_method_29_code 31 = .ok (.goto (-29), 3) := by decide +kernel
theorem d_Mo_textOf_34 : decode prog_12_method_29_code 34 = .ok (.return_, 1) := by decide +kernel
set_option maxHeartbeats 4000000 in
set_option maxRecDepth 100000 in
theorem c_Mo_textOf (l : Launch) (dC : Nat → ClassId) (dI : Nat → Nat → Nat) (mo rt rk rv rw ro rr ra rc rl rb : Nat) (th fd mn md pt : Int32) (pz : Int64) (kc la ca : Int32) (cB : ClassId) (fa : Nat → Int32) (P : List Nat) (cI : ClassId) (fw fo : Nat → Int32) (j : Nat) (B : List Nat) (hLa : by_L P fa) (hpa : P.length + 4096 ≤ 16400) (hj : j < 16) (hwj : fw j = nI B.length) (hB4 : B.length ≤ 4096) (hBt : ∀ t, t < B.length → B.getD t 0 < 256 ∧ fo (4096 * j + t) = sb_b (B.getD t 0)) : zM_v (S := Nat → Int32) l y_Mo_textOf w_Mo_textOf { frames := 1, cells := 0, slots := 0, locals := 21 } (dC, dI) vwCl [.ref mo, .int (nI j)] [(mo, .inr (8, [.int th, .int fd, .ref rt, .int mn, .ref rk, .ref rv, .ref rw, .ref ro, .int md, .ref rr, .int (nI P.length), .ref ra, .long pz, .int kc, .ref rc, .ref rl, .ref rb, .int la, .int ca])), (ra, .inl (cB, 16400, .inl fa)), (rw, .inl (cI, 16, .inl fw)), (ro, .inl (cB, 65536, .inl fo))] [(cB, .byte), (cI, .int)] (fun (u : Nat → Int32) => by_L (P ++ B) u) (fun u => [(mo, .inr (8, [.int th, .int fd, .ref rt, .int mn, .ref rk, .ref rv, .ref rw, .ref ro, .int md, .ref rr, .int (nI (P ++ B).length), .ref ra, .long pz, .int kc, .ref rc, .ref rl, .ref rb, .int la, .int ca])), (ra, .inl (cB, 16400, .inl u)), (rw, .inl (cI, 16, .inl fw)), (ro, .inl (cB, 65536, .inl fo))]) (fun u => [(cB, .byte), (cI, .int)]) 0 0 := by
  refine zz_enterv (cc := prog_12_method_29_code) (nL := 3) (ret := none) (by decide) rfl (Nat.le_of_ble_eq_true rfl) ?_
  intro p e s m below meth c A ls C0 hA hS hP hK hD hl
  obtain ⟨hx, hb, hml, hown, hg, hr, hlocks, hin⟩ := C0
  have hown : s.vm.findClass "TextForgeModel" = some m.cls := hown
  have hP : va_P (dC, dI) vwCl [(mo, .inr (8, [.int th, .int fd, .ref rt, .int mn, .ref rk, .ref rv, .ref rw, .ref ro, .int md, .ref rr, .int (nI P.length), .ref ra, .long pz, .int kc, .ref rc, .ref rl, .ref rb, .int la, .int ca])), (ra, .inl (cB, 16400, .inl fa)), (rw, .inl (cI, 16, .inl fw)), (ro, .inl (cB, 65536, .inl fo))] s.heap := hP
  have hK : va_K (dC, dI) vwCl [(cB, .byte), (cI, .int)] s := hK
  have hD : va_D A [(mo, .inr (8, [.int th, .int fd, .ref rt, .int mn, .ref rk, .ref rv, .ref rw, .ref ro, .int md, .ref rr, .int (nI P.length), .ref ra, .long pz, .int kc, .ref rc, .ref rl, .ref rb, .int la, .int ca])), (ra, .inl (cB, 16400, .inl fa)), (rw, .inl (cI, 16, .inl fw)), (ro, .inl (cB, 65536, .inl fo))] := hD
  have hl : lv_has ls 3 [(0, .ref mo), (1, .int (nI j))] := hl
  refine lv_iconst (v := 0) hx hb d_Mo_textOf_0 (by decide) ?_
  refine lv_istore_n (lv' := [(2, .int 0), (0, .ref mo), (1, .int (nI j))]) hx hb d_Mo_textOf_1 rfl hl (by decide) rfl (fun ls hl => ?_)
  rw [show nI P.length = nI (P ++ B.take 0).length by rw [List.take_zero, List.append_nil]] at hP hD
  refine zz_loop (fun (x : Nat × (Nat → Int32)) H locs ls => match x with | (i, g) => va_P (dC, dI) vwCl [(mo, .inr (8, [.int th, .int fd, .ref rt, .int mn, .ref rk, .ref rv, .ref rw, .ref ro, .int md, .ref rr, .int (nI (P ++ B.take i).length), .ref ra, .long pz, .int kc, .ref rc, .ref rl, .ref rb, .int la, .int ca])), (ra, .inl (cB, 16400, .inl g)), (rw, .inl (cI, 16, .inl fw)), (ro, .inl (cB, 65536, .inl fo))] H ∧ va_D A [(mo, .inr (8, [.int th, .int fd, .ref rt, .int mn, .ref rk, .ref rv, .ref rw, .ref ro, .int md, .ref rr, .int (nI (P ++ B.take i).length), .ref ra, .long pz, .int kc, .ref rc, .ref rl, .ref rb, .int la, .int ca])), (ra, .inl (cB, 16400, .inl g)), (rw, .inl (cI, 16, .inl fw)), (ro, .inl (cB, 65536, .inl fo))] ∧ va_S A s.heap H locs ∧ lv_has ls 3 [(0, .ref mo), (1, .int (nI j)), (2, .int (nI i))] ∧ by_L (P ++ B.take i) g ∧ i ≤ B.length) (fun x => match x with | (i, g) => B.length - i) ?_ (0, fa) ⟨hP.sub [0, 1, 2, 3] rfl, hD.sub [0, 1, 2, 3] (by decide) rfl, hS, lv_sub hl [1, 2, 0] rfl, (by rw [List.take_zero, List.append_nil]; exact hLa), (Nat.zero_le _)⟩
  intro x H locs ls hI ih_2
  obtain ⟨i, g⟩ := x
  try dsimp only at hI
  obtain ⟨hP, hD, hS, hl, hLi, hil⟩ := hI
  refine lv_iload_n hx hb d_Mo_textOf_2 rfl (lv_at hl 2 rfl) ?_
  refine lv_aload_n hx hb d_Mo_textOf_3 rfl (lv_at hl 0 rfl) ?_
  refine va_get (D := (dC, dI)) (ci := 8) (v := .ref rw) (C := "TextForgeModel") (T := TX8) (N := 19) hx hb hg iwX8 hown hK hP 0 rfl rfl 6 (by decide) (hg _ kw_732) (fun _ h9 => h9) rfl d_Mo_textOf_4 ?_
  refine lv_iload_n hx hb d_Mo_textOf_7 rfl (lv_at hl 1 rfl) ?_
  refine va_iald hx hb hK hP 2 1 rfl rfl (vp_in_nI hj (by decide)) d_Mo_textOf_8 ?_
  rw [nI_clamp (show j < 2 ^ 31 by omega), hwj]
  refine lv_icmp_ge (tgt := 34) hx hb d_Mo_textOf_9 (by decide) (fun c_9 => ?_) (fun c_9 => ?_)
  · skip
    have f_9 : B.length ≤ i := (nI_leI (by omega) (by omega)).mp c_9
    have hP9 := hP.sub (ws' := [(mo, .inr (8, [.int th, .int fd, .ref rt, .int mn, .ref rk, .ref rv, .ref rw, .ref ro, .int md, .ref rr, .int (nI (P ++ B.take i).length), .ref ra, .long pz, .int kc, .ref rc, .ref rl, .ref rb, .int la, .int ca])), (ra, .inl (cB, 16400, .inl g)), (rw, .inl (cI, 16, .inl fw)), (ro, .inl (cB, 65536, .inl fo))]) [0, 1, 2, 3] rfl
    have hD9 := hD.sub (ws' := [(mo, .inr (8, [.int th, .int fd, .ref rt, .int mn, .ref rk, .ref rv, .ref rw, .ref ro, .int md, .ref rr, .int (nI (P ++ B.take i).length), .ref ra, .long pz, .int kc, .ref rc, .ref rl, .ref rb, .int la, .int ca])), (ra, .inl (cB, 16400, .inl g)), (rw, .inl (cI, 16, .inl fw)), (ro, .inl (cB, 65536, .inl fo))]) [0, 1, 2, 3] (by decide) rfl
    have hK9 := hK.sub (tys' := [(cB, .byte), (cI, .int)]) [0, 1] rfl
    rw [show (P ++ B.take i) = (P ++ B) from mw_e (show i = B.length by omega)] at hP9 hD9
    exact zz_vret hx hb hr hlocks d_Mo_textOf_34 hS (by first | exact Nat.le_refl _ | decide | omega | (dsimp only; omega)) (by first | exact Nat.le_refl _ | decide | omega | (dsimp only; omega)) g (by rw [show (P ++ B.take i) = (P ++ B) from mw_e (show i = B.length by omega)] at hLi; exact hLi) hP9 hK9 hD9
  · skip
    have f_9 : i < B.length := Nat.lt_of_not_le (fun z => c_9 (nI_le z (by omega)))
    have hti : (B.take i).length ≤ i := List.length_take_le _ _
    refine lv_aload_n hx hb d_Mo_textOf_12 rfl (lv_at hl 0 rfl) ?_
    refine lv_aload_n hx hb d_Mo_textOf_13 rfl (lv_at hl 0 rfl) ?_
    refine va_get (D := (dC, dI)) (ci := 8) (v := .ref ro) (C := "TextForgeModel") (T := TX8) (N := 19) hx hb hg iwX8 hown hK hP 0 rfl rfl 7 (by decide) (hg _ kw_733) (fun _ h9 => h9) rfl d_Mo_textOf_14 ?_
    refine lv_sipush (v := 4096) hx hb d_Mo_textOf_17 (by decide) ?_
    refine lv_iload_n hx hb d_Mo_textOf_20 rfl (lv_at hl 1 rfl) ?_
    refine lv_imul hx hb d_Mo_textOf_21 ?_
    refine lv_iload_n hx hb d_Mo_textOf_22 rfl (lv_at hl 2 rfl) ?_
    refine lv_iadd hx hb d_Mo_textOf_23 ?_
    rw [show 4096 * nI j + nI i = nI (4096 * j + i) by rw [show (4096 : Int32) = nI 4096 from rfl, pk_mul, nI_add]]
    refine va_bald hx hb hK hP 3 0 rfl rfl (vp_in_nI (by omega) (by decide)) d_Mo_textOf_24 ?_
    rw [nI_clamp (show 4096 * j + i < 2 ^ 31 by omega), (hBt i f_9).2]
    have hPc := hP.sub (ws' := [(mo, .inr (8, [.int th, .int fd, .ref rt, .int mn, .ref rk, .ref rv, .ref rw, .ref ro, .int md, .ref rr, .int (nI (P ++ B.take i).length), .ref ra, .long pz, .int kc, .ref rc, .ref rl, .ref rb, .int la, .int ca])), (ra, .inl (cB, 16400, .inl g))]) [0, 1] rfl
    have hKc := hK.sub (tys' := [(cB, .byte)]) [0] rfl
    have hDc := hD.sub (ws' := [(mo, .inr (8, [.int th, .int fd, .ref rt, .int mn, .ref rk, .ref rv, .ref rw, .ref ro, .int md, .ref rr, .int (nI (P ++ B.take i).length), .ref ra, .long pz, .int kc, .ref rc, .ref rl, .ref rb, .int la, .int ca])), (ra, .inl (cB, 16400, .inl g))]) [0, 1] (by decide) rfl
    have hFc := va_free (wc := [(mo, .inr (8, [.int th, .int fd, .ref rt, .int mn, .ref rk, .ref rv, .ref rw, .ref ro, .int md, .ref rr, .int (nI (P ++ B.take i).length), .ref ra, .long pz, .int kc, .ref rc, .ref rl, .ref rb, .int la, .int ca])), (ra, .inl (cB, 16400, .inl g))]) hD hS hA [0, 1] rfl
    refine zz_callv (va_runV (As := [.int (sb_b (B.getD i 0))]) (rest := []) ⟨hx, hb, hml, hown, hg⟩ (c_Mo_put l dC dI mo rt rk rv rw ro rr ra rc rl rb th fd mn md (nI (P ++ B.take i).length) pz kc la ca cB g (P ++ B.take i) (sb_b (B.getD i 0)) hLi (by (try simp only [List.length_append, List.length_cons, List.length_nil]); omega) H.size) (cwV 1 hg (gi_V kw_863 kw_865 sw_16 kw_9 kw_866) rfl rfl rfl (by decide +kernel) ⟨Nat.le_of_ble_eq_true rfl, Nat.le_of_ble_eq_true rfl⟩) (zz_preV hPc hKc hDc _ (q0 := 0) (ci := 8) rfl rfl) rfl rfl hl.1 rfl (lv_room (Nat.le_of_ble_eq_true rfl)) d_Mo_textOf_25 ⟨Nat.le_of_ble_eq_true rfl, Nat.le_of_ble_eq_true rfl⟩) hS hFc (fun u H1 k9 p9 d9 => va_join (wr := [(rw, .inl (cI, 16, .inl fw)), (ro, .inl (cB, 65536, .inl fo))]) hP hD [0, 1] [2, 3] rfl rfl (by decide) (by decide) k9 hFc p9 d9) (fun u H locs hw hP hD hK1 hS => ?_)
    obtain ⟨u_1, rfl⟩ : ∃ z, z = u := ⟨_, rfl⟩
    try dsimp only at hw
    have hP : va_P (dC, dI) vwCl [(rw, .inl (cI, 16, .inl fw)), (ro, .inl (cB, 65536, .inl fo)), (mo, .inr (8, [.int th, .int fd, .ref rt, .int mn, .ref rk, .ref rv, .ref rw, .ref ro, .int md, .ref rr, .int (nI ((P ++ B.take i) ++ [by_b (sb_b (B.getD i 0))]).length), .ref ra, .long pz, .int kc, .ref rc, .ref rl, .ref rb, .int la, .int ca])), (ra, .inl (cB, 16400, .inl u_1))] H := hP
    have hD : va_D A [(rw, .inl (cI, 16, .inl fw)), (ro, .inl (cB, 65536, .inl fo)), (mo, .inr (8, [.int th, .int fd, .ref rt, .int mn, .ref rk, .ref rv, .ref rw, .ref ro, .int md, .ref rr, .int (nI ((P ++ B.take i) ++ [by_b (sb_b (B.getD i 0))]).length), .ref ra, .long pz, .int kc, .ref rc, .ref rl, .ref rb, .int la, .int ca])), (ra, .inl (cB, 16400, .inl u_1))] := hD
    have hL_3 := hw
    refine lv_iinc (v := (nI i) + 1) (lv' := [(2, .int ((nI i) + 1)), (0, .ref mo), (1, .int (nI j))]) hx hb d_Mo_textOf_28 hl (k := 2) rfl rfl (by decide) rfl (fun ls hl => ?_)
    refine lv_goto (tgt := 2) hx hb d_Mo_textOf_31 (by decide) ?_
    rw [mw_s f_9 (hBt i f_9).1] at hP hD hL_3
    rw [nI_1] at hl
    exact ih_2 (i + 1, u_1) H locs ls ⟨hP.sub [2, 3, 0, 1] rfl, hD.sub [2, 3, 0, 1] (by decide) rfl, hS, lv_sub hl [1, 2, 0] rfl, hL_3, f_9⟩ (by dsimp only; omega)
abbrev y_Mo_sortOf : MethodName := ⟨"TextForgeModel", "sortOf", "(I)Ljava/lang/String;"⟩
abbrev w_Mo_sortOf : List Cond := Cond.code y_Mo_sortOf prog_12_method_28_code 1 (some (.object "java/lang/String")) :: gw
theorem d_Mo_sortOf_0 : decode prog_12_method_28_code 0 = .ok (.iload_n 0, 1) := by decide +kernel
theorem d_Mo_sortOf_1 : decode prog_12_method_28_code 1 = .ok (.tableswitch 71 0 7 #[47, 50, 53, 56, 59, 62, 65, 68], 47) := by decide +kernel
theorem d_Mo_sortOf_48 : decode prog_12_method_28_code 48 = .ok (.ldc 133, 2) := by decide +kernel
theorem d_Mo_sortOf_50 : decode prog_12_method_28_code 50 = .ok (.areturn, 1) := by decide +kernel
theorem d_Mo_sortOf_51 : decode prog_12_method_28_code 51 = .ok (.ldc 135, 2) := by decide +kernel
theorem d_Mo_sortOf_53 : decode prog_12_method_28_code 53 = .ok (.areturn, 1) := by decide +kernel
theorem d_Mo_sortOf_54 : decode prog_12_method_28_code 54 = .ok (.ldc 137, 2) := by decide +kernel
theorem d_Mo_sortOf_56 : decode prog_12_method_28_code 56 = .ok (.areturn, 1) := by decide +kernel
theorem d_Mo_sortOf_57 : decode prog_12_method_28_code 57 = .ok (.ldc 139, 2) := by decide +kernel
theorem d_Mo_sortOf_59 : decode prog_12_method_28_code 59 = .ok (.areturn, 1) := by decide +kernel
theorem d_Mo_sortOf_60 : decode prog_12_method_28_code 60 = .ok (.ldc 141, 2) := by decide +kernel
theorem d_Mo_sortOf_62 : decode prog_12_method_28_code 62 = .ok (.areturn, 1) := by decide +kernel
theorem d_Mo_sortOf_63 : decode prog_12_method_28_code 63 = .ok (.ldc 143, 2) := by decide +kernel
theorem d_Mo_sortOf_65 : decode prog_12_method_28_code 65 = .ok (.areturn, 1) := by decide +kernel
theorem d_Mo_sortOf_66 : decode prog_12_method_28_code 66 = .ok (.ldc 145, 2) := by decide +kernel
theorem d_Mo_sortOf_68 : decode prog_12_method_28_code 68 = .ok (.areturn, 1) := by decide +kernel
theorem d_Mo_sortOf_69 : decode prog_12_method_28_code 69 = .ok (.ldc 147, 2) := by decide +kernel
theorem d_Mo_sortOf_71 : decode prog_12_method_28_code 71 = .ok (.areturn, 1) := by decide +kernel
theorem d_Mo_sortOf_72 : decode prog_12_method_28_code 72 = .ok (.ldc 149, 2) := by decide +kernel
theorem d_Mo_sortOf_74 : decode prog_12_method_28_code 74 = .ok (.areturn, 1) := by decide +kernel
set_option maxHeartbeats 4000000 in
set_option maxRecDepth 100000 in
theorem c_Mo_sortOf (l : Launch) (dC : Nat → ClassId) (dI : Nat → Nat → Nat) (ad : Nat → Nat) (i : Nat) (hi : i ≤ 8) : yR_q ad l y_Mo_sortOf w_Mo_sortOf { frames := 0, cells := 0, slots := 0, locals := 0 } (dC, dI) vwCl [.int (nI i)] [] [] (fun r : Option Nat => r = some (ad (24 + i))) := by
  refine zy_enterR (cc := prog_12_method_28_code) (nL := 1) (ret := (some (.object "java/lang/String"))) (by decide) rfl (Nat.le_of_ble_eq_true rfl) ?_
  intro p e s m below meth c ls C0 hP hK hl hX
  obtain ⟨hx, hb, hml, hown, hg, hr, hlocks, hin⟩ := C0
  have hS : va_S (fun _ => False) s.heap s.heap [] := va_S.rf
  have hown : s.vm.findClass "TextForgeModel" = some m.cls := hown
  have hP : va_P (dC, dI) vwCl [] s.heap := hP
  have hK : va_K (dC, dI) vwCl [] s := hK
  have hl : lv_has ls 1 [(0, .int (nI i))] := hl
  refine lv_iload_n hx hb d_Mo_sortOf_0 rfl (lv_at hl 0 rfl) ?_
  rcases mo_si hi with rfl | rfl | rfl | rfl | rfl | rfl | rfl | rfl | rfl
  · skip
    refine lv_tableIn (tgt := 48) hx hb d_Mo_sortOf_1 (by decide) (by decide) (off := 47) (by decide) (by decide) ?_
    have hl : lv_has ls 1 [(0, .int (nI 0))] := hl
    refine va_ldcS (q := ad 24) hx hb hown (show vk_R "TextForgeModel" 133 "(ptr)" (ad 24) s from (hX.2.1 24 (by decide)).1) d_Mo_sortOf_48 ?_
    exact zz_qretR (r := some (ad 24)) hx hb hr hlocks d_Mo_sortOf_50 rfl
  · skip
    refine lv_tableIn (tgt := 51) hx hb d_Mo_sortOf_1 (by decide) (by decide) (off := 50) (by decide) (by decide) ?_
    have hl : lv_has ls 1 [(0, .int (nI 1))] := hl
    refine va_ldcS (q := ad 25) hx hb hown (show vk_R "TextForgeModel" 135 "(func)" (ad 25) s from (hX.2.1 25 (by decide)).1) d_Mo_sortOf_51 ?_
    exact zz_qretR (r := some (ad 25)) hx hb hr hlocks d_Mo_sortOf_53 rfl
  · skip
    refine lv_tableIn (tgt := 54) hx hb d_Mo_sortOf_1 (by decide) (by decide) (off := 53) (by decide) (by decide) ?_
    have hl : lv_has ls 1 [(0, .int (nI 2))] := hl
    refine va_ldcS (q := ad 26) hx hb hown (show vk_R "TextForgeModel" 137 "(slice)" (ad 26) s from (hX.2.1 26 (by decide)).1) d_Mo_sortOf_54 ?_
    exact zz_qretR (r := some (ad 26)) hx hb hr hlocks d_Mo_sortOf_56 rfl
  · skip
    refine lv_tableIn (tgt := 57) hx hb d_Mo_sortOf_1 (by decide) (by decide) (off := 56) (by decide) (by decide) ?_
    have hl : lv_has ls 1 [(0, .int (nI 3))] := hl
    refine va_ldcS (q := ad 27) hx hb hown (show vk_R "TextForgeModel" 139 "(map)" (ad 27) s from (hX.2.1 27 (by decide)).1) d_Mo_sortOf_57 ?_
    exact zz_qretR (r := some (ad 27)) hx hb hr hlocks d_Mo_sortOf_59 rfl
  · skip
    refine lv_tableIn (tgt := 60) hx hb d_Mo_sortOf_1 (by decide) (by decide) (off := 59) (by decide) (by decide) ?_
    have hl : lv_has ls 1 [(0, .int (nI 4))] := hl
    refine va_ldcS (q := ad 28) hx hb hown (show vk_R "TextForgeModel" 141 "(chan)" (ad 28) s from (hX.2.1 28 (by decide)).1) d_Mo_sortOf_60 ?_
    exact zz_qretR (r := some (ad 28)) hx hb hr hlocks d_Mo_sortOf_62 rfl
  · skip
    refine lv_tableIn (tgt := 63) hx hb d_Mo_sortOf_1 (by decide) (by decide) (off := 62) (by decide) (by decide) ?_
    have hl : lv_has ls 1 [(0, .int (nI 5))] := hl
    refine va_ldcS (q := ad 29) hx hb hown (show vk_R "TextForgeModel" 143 "(interface)" (ad 29) s from (hX.2.1 29 (by decide)).1) d_Mo_sortOf_63 ?_
    exact zz_qretR (r := some (ad 29)) hx hb hr hlocks d_Mo_sortOf_65 rfl
  · skip
    refine lv_tableIn (tgt := 66) hx hb d_Mo_sortOf_1 (by decide) (by decide) (off := 65) (by decide) (by decide) ?_
    have hl : lv_has ls 1 [(0, .int (nI 6))] := hl
    refine va_ldcS (q := ad 30) hx hb hown (show vk_R "TextForgeModel" 145 "(struct)" (ad 30) s from (hX.2.1 30 (by decide)).1) d_Mo_sortOf_66 ?_
    exact zz_qretR (r := some (ad 30)) hx hb hr hlocks d_Mo_sortOf_68 rfl
  · skip
    refine lv_tableIn (tgt := 69) hx hb d_Mo_sortOf_1 (by decide) (by decide) (off := 68) (by decide) (by decide) ?_
    have hl : lv_has ls 1 [(0, .int (nI 7))] := hl
    refine va_ldcS (q := ad 31) hx hb hown (show vk_R "TextForgeModel" 147 "(array)" (ad 31) s from (hX.2.1 31 (by decide)).1) d_Mo_sortOf_69 ?_
    exact zz_qretR (r := some (ad 31)) hx hb hr hlocks d_Mo_sortOf_71 rfl
  · skip
    refine lv_tableOut (tgt := 72) hx hb d_Mo_sortOf_1 (by decide) (by decide) ?_
    have hl : lv_has ls 1 [(0, .int (nI 8))] := hl
    refine va_ldcS (q := ad 32) hx hb hown (show vk_R "TextForgeModel" 149 "(gate)" (ad 32) s from (hX.2.1 32 (by decide)).1) d_Mo_sortOf_72 ?_
    exact zz_qretR (r := some (ad 32)) hx hb hr hlocks d_Mo_sortOf_74 rfl
abbrev y_Mo_baseOf : MethodName := ⟨"TextForgeModel", "baseOf", "(I)I"⟩
abbrev w_Mo_baseOf : List Cond := Cond.code y_Mo_baseOf prog_12_method_31_code 1 (some .int) :: gw
theorem d_Mo_baseOf_0 : decode prog_12_method_31_code 0 = .ok (.iload_n 0, 1) := by decide +kernel
theorem d_Mo_baseOf_1 : decode prog_12_method_31_code 1 = .ok (.bipush 100, 2) := by decide +kernel
theorem d_Mo_baseOf_3 : decode prog_12_method_31_code 3 = .ok (.if_icmp .ne 8, 3) := by decide +kernel
theorem d_Mo_baseOf_6 : decode prog_12_method_31_code 6 = .ok (.bipush 10, 2) := by decide +kernel
theorem d_Mo_baseOf_8 : decode prog_12_method_31_code 8 = .ok (.goto 42, 3) := by decide +kernel
theorem d_Mo_baseOf_11 : decode prog_12_method_31_code 11 = .ok (.iload_n 0, 1) := by decide +kernel
theorem d_Mo_baseOf_12 : decode prog_12_method_31_code 12 = .ok (.bipush 120, 2) := by decide +kernel
theorem d_Mo_baseOf_14 : decode prog_12_method_31_code 14 = .ok (.if_icmp .eq 9, 3) := by decide +kernel
theorem d_Mo_baseOf_17 : decode prog_12_method_31_code 17 = .ok (.iload_n 0, 1) := by decide +kernel
theorem d_Mo_baseOf_18 : decode prog_12_method_31_code 18 = .ok (.bipush 88, 2) := by decide +kernel
theorem d_Mo_baseOf_20 : decode prog_12_method_31_code 20 = .ok (.if_icmp .ne 8, 3) := by decide +kernel
theorem d_Mo_baseOf_23 : decode prog_12_method_31_code 23 = .ok (.bipush 16, 2) := by decide +kernel
theorem d_Mo_baseOf_25 : decode prog_12_method_31_code 25 = .ok (.goto 25, 3) := by decide +kernel
theorem d_Mo_baseOf_28 : decode prog_12_method_31_code 28 = .ok (.iload_n 0, 1) := by decide +kernel
theorem d_Mo_baseOf_29 : decode prog_12_method_31_code 29 = .ok (.bipush 98, 2) := by decide +kernel
theorem d_Mo_baseOf_31 : decode prog_12_method_31_code 31 = .ok (.if_icmp .ne 7, 3) := by decide +kernel
theorem d_Mo_baseOf_34 : decode prog_12_method_31_code 34 = .ok (.iconst 2, 1) := by decide +kernel
theorem d_Mo_baseOf_35 : decode prog_12_method_31_code 35 = .ok (.goto 15, 3) := by decide +kernel
theorem d_Mo_baseOf_38 : decode prog_12_method_31_code 38 = .ok (.iload_n 0, 1) := by decide +kernel
theorem d_Mo_baseOf_39 : decode prog_12_method_31_code 39 = .ok (.bipush 111, 2) := by decide +kernel
theorem d_Mo_baseOf_41 : decode prog_12_method_31_code 41 = .ok (.if_icmp .ne 8, 3) := by decide +kernel
theorem d_Mo_baseOf_44 : decode prog_12_method_31_code 44 = .ok (.bipush 8, 2) := by decide +kernel
theorem d_Mo_baseOf_46 : decode prog_12_method_31_code 46 = .ok (.goto 4, 3) := by decide +kernel
theorem d_Mo_baseOf_49 : decode prog_12_method_31_code 49 = .ok (.iconst 0, 1) := by decide +kernel
theorem d_Mo_baseOf_50 : decode prog_12_method_31_code 50 = .ok (.ireturn, 1) := by decide +kernel
set_option maxHeartbeats 4000000 in
set_option maxRecDepth 100000 in
theorem c_Mo_baseOf (l : Launch) (dC : Nat → ClassId) (dI : Nat → Nat → Nat) (v : Nat) (hv : v < 256) : zR_i l y_Mo_baseOf w_Mo_baseOf { frames := 0, cells := 0, slots := 0, locals := 0 } (dC, dI) vwCl [.int (sb_b v)] [] [] (fun r : Int32 => r = nI (mb_v v)) := by
  refine zz_enterR (cc := prog_12_method_31_code) (nL := 1) (ret := (some .int)) (by decide) rfl (Nat.le_of_ble_eq_true rfl) ?_
  intro p e s m below meth c ls C0 hP hK hl
  obtain ⟨hx, hb, hml, hown, hg, hr, hlocks, hin⟩ := C0
  have hS : va_S (fun _ => False) s.heap s.heap [] := va_S.rf
  have hown : s.vm.findClass "TextForgeModel" = some m.cls := hown
  have hP : va_P (dC, dI) vwCl [] s.heap := hP
  have hK : va_K (dC, dI) vwCl [] s := hK
  have hl : lv_has ls 1 [(0, .int (sb_b v))] := hl
  refine lv_iload_n hx hb d_Mo_baseOf_0 rfl (lv_at hl 0 rfl) ?_
  refine lv_bipush (v := 100) hx hb d_Mo_baseOf_1 (by decide) ?_
  refine lv_icmp_ne (tgt := 11) hx hb d_Mo_baseOf_3 (by decide) (fun c_3 => ?_) (fun c_3 => ?_)
  · skip
    have f_3 : v ≠ 100 := sb_e2 (k := 100) hv (by decide) c_3
    refine lv_iload_n hx hb d_Mo_baseOf_11 rfl (lv_at hl 0 rfl) ?_
    refine lv_bipush (v := 120) hx hb d_Mo_baseOf_12 (by decide) ?_
    refine lv_icmp_eq (tgt := 23) hx hb d_Mo_baseOf_14 (by decide) (fun c_14 => ?_) (fun c_14 => ?_)
    · skip
      have f_14 : v = 120 := sb_e1 (k := 120) hv (by decide) c_14
      refine lv_bipush (v := 16) hx hb d_Mo_baseOf_23 (by decide) ?_
      refine lv_goto (tgt := 50) hx hb d_Mo_baseOf_25 (by decide) ?_
      exact zz_iretR hx hb hr hlocks d_Mo_baseOf_50 (by rw [f_14]; rfl)
    · skip
      have f_14 : v ≠ 120 := sb_e2 (k := 120) hv (by decide) c_14
      refine lv_iload_n hx hb d_Mo_baseOf_17 rfl (lv_at hl 0 rfl) ?_
      refine lv_bipush (v := 88) hx hb d_Mo_baseOf_18 (by decide) ?_
      refine lv_icmp_ne (tgt := 28) hx hb d_Mo_baseOf_20 (by decide) (fun c_20 => ?_) (fun c_20 => ?_)
      · skip
        have f_20 : v ≠ 88 := sb_e2 (k := 88) hv (by decide) c_20
        refine lv_iload_n hx hb d_Mo_baseOf_28 rfl (lv_at hl 0 rfl) ?_
        refine lv_bipush (v := 98) hx hb d_Mo_baseOf_29 (by decide) ?_
        refine lv_icmp_ne (tgt := 38) hx hb d_Mo_baseOf_31 (by decide) (fun c_31 => ?_) (fun c_31 => ?_)
        · skip
          have f_31 : v ≠ 98 := sb_e2 (k := 98) hv (by decide) c_31
          refine lv_iload_n hx hb d_Mo_baseOf_38 rfl (lv_at hl 0 rfl) ?_
          refine lv_bipush (v := 111) hx hb d_Mo_baseOf_39 (by decide) ?_
          refine lv_icmp_ne (tgt := 49) hx hb d_Mo_baseOf_41 (by decide) (fun c_41 => ?_) (fun c_41 => ?_)
          · skip
            have f_41 : v ≠ 111 := sb_e2 (k := 111) hv (by decide) c_41
            refine lv_iconst (v := 0) hx hb d_Mo_baseOf_49 (by decide) ?_
            exact zz_iretR hx hb hr hlocks d_Mo_baseOf_50 (by rw [mb_0 f_3 f_14 f_20 f_31 f_41]; rfl)
          · skip
            have f_41 : v = 111 := sb_e1 (k := 111) hv (by decide) c_41
            refine lv_bipush (v := 8) hx hb d_Mo_baseOf_44 (by decide) ?_
            refine lv_goto (tgt := 50) hx hb d_Mo_baseOf_46 (by decide) ?_
            exact zz_iretR hx hb hr hlocks d_Mo_baseOf_50 (by rw [f_41]; rfl)
        · skip
          have f_31 : v = 98 := sb_e1 (k := 98) hv (by decide) c_31
          refine lv_iconst (v := 2) hx hb d_Mo_baseOf_34 (by decide) ?_
          refine lv_goto (tgt := 50) hx hb d_Mo_baseOf_35 (by decide) ?_
          exact zz_iretR hx hb hr hlocks d_Mo_baseOf_50 (by rw [f_31]; rfl)
      · skip
        have f_20 : v = 88 := sb_e1 (k := 88) hv (by decide) c_20
        refine lv_bipush (v := 16) hx hb d_Mo_baseOf_23 (by decide) ?_
        refine lv_goto (tgt := 50) hx hb d_Mo_baseOf_25 (by decide) ?_
        exact zz_iretR hx hb hr hlocks d_Mo_baseOf_50 (by rw [f_20]; rfl)
  · skip
    have f_3 : v = 100 := sb_e1 (k := 100) hv (by decide) c_3
    refine lv_bipush (v := 10) hx hb d_Mo_baseOf_6 (by decide) ?_
    refine lv_goto (tgt := 50) hx hb d_Mo_baseOf_8 (by decide) ?_
    exact zz_iretR hx hb hr hlocks d_Mo_baseOf_50 (by rw [f_3]; rfl)
abbrev y_Mo_plain : MethodName := ⟨"TextForgeModel", "plain", "(I)V"⟩
abbrev w_Mo_plain : List Cond := Cond.code y_Mo_plain prog_12_method_30_code 2 none :: gw
theorem d_Mo_plain_0 : decode prog_12_method_30_code 0 = .ok (.aload_n 0, 1) := by decide +kernel
theorem d_Mo_plain_1 : decode prog_12_method_30_code 1 = .ok (.getfield 13, 3) := by decide +kernel
theorem d_Mo_plain_4 : decode prog_12_method_30_code 4 = .ok (.iload_n 1, 1) := by decide +kernel
theorem d_Mo_plain_5 : decode prog_12_method_30_code 5 = .ok (.iaload, 1) := by decide +kernel
theorem d_Mo_plain_6 : decode prog_12_method_30_code 6 = .ok (.iconst 1, 1) := by decide +kernel
theorem d_Mo_plain_7 : decode prog_12_method_30_code 7 = .ok (.if_icmp .gt 28, 3) := by decide +kernel
theorem d_Mo_plain_10 : decode prog_12_method_30_code 10 = .ok (.aload_n 0, 1) := by decide +kernel
theorem d_Mo_plain_11 : decode prog_12_method_30_code 11 = .ok (.iload_n 1, 1) := by decide +kernel
theorem d_Mo_plain_12 : decode prog_12_method_30_code 12 = .ok (.invokevirtual 151, 3) := by decide +kernel
theorem d_Mo_plain_15 : decode prog_12_method_30_code 15 = .ok (.ifCond .eq 9, 3) := by decide +kernel
theorem d_Mo_plain_18 : decode prog_12_method_30_code 18 = .ok (.aload_n 0, 1) := by decide +kernel
theorem d_Mo_plain_19 : decode prog_12_method_30_code 19 = .ok (.bipush 45, 2) := by decide +kernel
theorem d_Mo_plain_21 : decode prog_12_method_30_code 21 = .ok (.invokevirtual 74, 3) := by decide +kernel
theorem d_Mo_plain_24 : decode prog_12_method_30_code 24 = .ok (.aload_n 0, 1) := by decide +kernel
theorem d_Mo_plain_25 : decode prog_12_method_30_code 25 = .ok (.iload_n 1, 1) := by decide +kernel
theorem d_Mo_plain_26 : decode prog_12_method_30_code 26 = .ok (.bipush 10, 2) := by decide +kernel
theorem d_Mo_plain_28 : decode prog_12_method_30_code 28 = .ok (.iconst 0, 1) := by decide +kernel
theorem d_Mo_plain_29 : decode prog_12_method_30_code 29 = .ok (.invokevirtual 155, 3) := by decide +kernel
theorem d_Mo_plain_32 : decode prog_12_method_30_code 32 = .ok (.goto 89, 3) := by decide +kernel
theorem d_Mo_plain_35 : decode prog_12_method_30_code 35 = .ok (.aload_n 0, 1) := by decide +kernel
theorem d_Mo_plain_36 : decode prog_12_method_30_code 36 = .ok (.getfield 13, 3) := by decide +kernel
theorem d_Mo_plain_39 : decode prog_12_method_30_code 39 = .ok (.iload_n 1, 1) := by decide +kernel
theorem d_Mo_plain_40 : decode prog_12_method_30_code 40 = .ok (.iaload, 1) := by decide +kernel
theorem d_Mo_plain_41 : decode prog_12_method_30_code 41 = .ok (.iconst 2, 1) := by decide +kernel
theorem d_Mo_plain_42 : decode prog_12_method_30_code 42 = .ok (.if_icmp .ne 28, 3) := by decide +kernel
theorem d_Mo_plain_45 : decode prog_12_method_30_code 45 = .ok (.aload_n 0, 1) := by decide +kernel
theorem d_Mo_plain_46 : decode prog_12_method_30_code 46 = .ok (.aload_n 0, 1) := by decide +kernel
theorem d_Mo_plain_47 : decode prog_12_method_30_code 47 = .ok (.getfield 17, 3) := by decide +kernel
theorem d_Mo_plain_50 : decode prog_12_method_30_code 50 = .ok (.iload_n 1, 1) := by decide +kernel
theorem d_Mo_plain_51 : decode prog_12_method_30_code 51 = .ok (.laload, 1) := by decide +kernel
theorem d_Mo_plain_52 : decode prog_12_method_30_code 52 = .ok (.lconst 1, 1) := by decide +kernel
theorem d_Mo_plain_53 : decode prog_12_method_30_code 53 = .ok (.lcmp, 1) := by decide +kernel
theorem d_Mo_plain_54 : decode prog_12_method_30_code 54 = .ok (.ifCond .ne 8, 3) := by decide +kernel
theorem d_Mo_plain_57 : decode prog_12_method_30_code 57 = .ok (.ldc 159, 2) := by decide +kernel
theorem d_Mo_plain_59 : decode prog_12_method_30_code 59 = .ok (.goto 5, 3) := by decide +kernel
theorem d_Mo_plain_62 : decode prog_12_method_30_code 62 = .ok (.ldc 161, 2) := by decide +kernel
theorem d_Mo_plain_64 : decode prog_12_method_30_code 64 = .ok (.invokevirtual 163, 3) := by decide +kernel
theorem d_Mo_plain_67 : decode prog_12_method_30_code 67 = .ok (.goto 54, 3) := by decide +kernel
theorem d_Mo_plain_70 : decode prog_12_method_30_code 70 = .ok (.aload_n 0, 1) := by decide +kernel
theorem d_Mo_plain_71 : decode prog_12_method_30_code 71 = .ok (.getfield 13, 3) := by decide +kernel
theorem d_Mo_plain_74 : decode prog_12_method_30_code 74 = .ok (.iload_n 1, 1) := by decide +kernel
theorem d_Mo_plain_75 : decode prog_12_method_30_code 75 = .ok (.iaload, 1) := by decide +kernel
theorem d_Mo_plain_76 : decode prog_12_method_30_code 76 = .ok (.iconst 3, 1) := by decide +kernel
theorem d_Mo_plain_77 : decode prog_12_method_30_code 77 = .ok (.if_icmp .ne 11, 3) := by decide +kernel
theorem d_Mo_plain_80 : decode prog_12_method_30_code 80 = .ok (.aload_n 0, 1) := by decide +kernel
theorem d_Mo_plain_81 : decode prog_12_method_30_code 81 = .ok (.iload_n 1, 1) := by decide +kernel
theorem d_Mo_plain_82 : decode prog_12_method_30_code 82 = .ok (.invokevirtual 166, 3) := by decide +kernel
theorem d_Mo_plain_85 : decode prog_12_method_30_code 85 = .ok (.goto 36, 3) := by decide +kernel
theorem d_Mo_plain_88 : decode prog_12_method_30_code 88 = .ok (.aload_n 0, 1) := by decide +kernel
theorem d_Mo_plain_89 : decode prog_12_method_30_code 89 = .ok (.getfield 13, 3) := by decide +kernel
theorem d_Mo_plain_92 : decode prog_12_method_30_code 92 = .ok (.iload_n 1, 1) := by decide +kernel
theorem d_Mo_plain_93 : decode prog_12_method_30_code 93 = .ok (.iaload, 1) := by decide +kernel
theorem d_Mo_plain_94 : decode prog_12_method_30_code 94 = .ok (.iconst 4, 1) := by decide +kernel
theorem d_Mo_plain_95 : decode prog_12_method_30_code 95 = .ok (.if_icmp .ne 12, 3) := by decide +kernel
theorem d_Mo_plain_98 : decode prog_12_method_30_code 98 = .ok (.aload_n 0, 1) := by decide +kernel
theorem d_Mo_plain_99 : decode prog_12_method_30_code 99 = .ok (.ldc 169, 2) := by decide +kernel
theorem d_Mo_plain_101 : decode prog_12_method_30_code 101 = .ok (.invokevirtual 163, 3) := by decide +kernel
theorem d_Mo_plain_104 : decode prog_12_method_30_code 104 = .ok (.goto 17, 3) := by decide +kernel
theorem d_Mo_plain_107 : decode prog_12_method_30_code 107 = .ok (.aload_n 0, 1) := by decide +kernel
theorem d_Mo_plain_108 : decode prog_12_method_30_code 108 = .ok (.aload_n 0, 1) := by decide +kernel
theorem d_Mo_plain_109 : decode prog_12_method_30_code 109 = .ok (.getfield 17, 3) := by decide +kernel
theorem d_Mo_plain_112 : decode prog_12_method_30_code 112 = .ok (.iload_n 1, 1) := by decide +kernel
theorem d_Mo_plain_113 : decode prog_12_method_30_code 113 = .ok (.laload, 1) := by decide +kernel
theorem d_Mo_plain_114 : decode prog_12_method_30_code 114 = .ok (.l2i, 1) := by decide +kernel
theorem d_Mo_plain_115 : decode prog_12_method_30_code 115 = .ok (.invokestatic 171, 3) := by decide +kernel
theorem d_Mo_plain_118 : decode prog_12_method_30_code 118 = .ok (.invokevirtual 163, 3) := by decide +kernel
theorem d_Mo_plain_121 : decode prog_12_method_30_code 121 = .ok (.return_, 1) := by decide +kernel
set_option maxHeartbeats 4000000 in
set_option maxRecDepth 100000 in
theorem c_Mo_plain (l : Launch) (dC : Nat → ClassId) (dI : Nat → Nat → Nat) (ad : Nat → Nat) (mo rt rk rv rw ro rr ra rc rl rb : Nat) (th fd mn md pt : Int32) (pz : Int64) (kc la ca : Int32) (cB : ClassId) (fa : Nat → Int32) (P : List Nat) (cI cL : ClassId) (fk : Nat → Int32) (fv : Nat → Int64) (fw fo : Nat → Int32) (j k : Nat) (x : Int64) (B : List Nat) (hLa : by_L P fa) (hpa : P.length + 4196 ≤ 16400) (hj : j < 16) (hok : mo_o k x) (hmg : mo_h k x B j fk fv fw fo) : yM_v (S := Nat → Int32) ad l y_Mo_plain w_Mo_plain { frames := 5, cells := 0, slots := 0, locals := 107 } (dC, dI) vwCl [.ref mo, .int (nI j)] [(mo, .inr (8, [.int th, .int fd, .ref rt, .int mn, .ref rk, .ref rv, .ref rw, .ref ro, .int md, .ref rr, .int (nI P.length), .ref ra, .long pz, .int kc, .ref rc, .ref rl, .ref rb, .int la, .int ca])), (ra, .inl (cB, 16400, .inl fa)), (rk, .inl (cI, 16, .inl fk)), (rv, .inl (cL, 16, .inr (.inl fv))), (rw, .inl (cI, 16, .inl fw)), (ro, .inl (cB, 65536, .inl fo))] [(cB, .byte), (cI, .int), (cL, .long)] (fun (u : Nat → Int32) => by_L (P ++ (mo_p k x B)) u) (fun u => [(mo, .inr (8, [.int th, .int fd, .ref rt, .int mn, .ref rk, .ref rv, .ref rw, .ref ro, .int md, .ref rr, .int (nI (P ++ (mo_p k x B)).length), .ref ra, .long pz, .int kc, .ref rc, .ref rl, .ref rb, .int la, .int ca])), (ra, .inl (cB, 16400, .inl u)), (rk, .inl (cI, 16, .inl fk)), (rv, .inl (cL, 16, .inr (.inl fv))), (rw, .inl (cI, 16, .inl fw)), (ro, .inl (cB, 65536, .inl fo))]) (fun u => [(cB, .byte), (cI, .int), (cL, .long)]) 0 0 := by
  refine zy_enterv (cc := prog_12_method_30_code) (nL := 2) (ret := none) (by decide) rfl (Nat.le_of_ble_eq_true rfl) ?_
  intro p e s m below meth c A ls C0 hA hS hP hK hD hl hX
  obtain ⟨hx, hb, hml, hown, hg, hr, hlocks, hin⟩ := C0
  have hown : s.vm.findClass "TextForgeModel" = some m.cls := hown
  have hP : va_P (dC, dI) vwCl [(mo, .inr (8, [.int th, .int fd, .ref rt, .int mn, .ref rk, .ref rv, .ref rw, .ref ro, .int md, .ref rr, .int (nI P.length), .ref ra, .long pz, .int kc, .ref rc, .ref rl, .ref rb, .int la, .int ca])), (ra, .inl (cB, 16400, .inl fa)), (rk, .inl (cI, 16, .inl fk)), (rv, .inl (cL, 16, .inr (.inl fv))), (rw, .inl (cI, 16, .inl fw)), (ro, .inl (cB, 65536, .inl fo))] s.heap := hP
  have hK : va_K (dC, dI) vwCl [(cB, .byte), (cI, .int), (cL, .long)] s := hK
  have hD : va_D A [(mo, .inr (8, [.int th, .int fd, .ref rt, .int mn, .ref rk, .ref rv, .ref rw, .ref ro, .int md, .ref rr, .int (nI P.length), .ref ra, .long pz, .int kc, .ref rc, .ref rl, .ref rb, .int la, .int ca])), (ra, .inl (cB, 16400, .inl fa)), (rk, .inl (cI, 16, .inl fk)), (rv, .inl (cL, 16, .inr (.inl fv))), (rw, .inl (cI, 16, .inl fw)), (ro, .inl (cB, 65536, .inl fo))] := hD
  have hl : lv_has ls 2 [(0, .ref mo), (1, .int (nI j))] := hl
  rcases hok with hkn | hk3 | ⟨hk2, hxx | hxx⟩ | ⟨hk4, i1, hi1, hxx⟩
  · skip
    have hk9 : fk j = nI k := hmg.1.trans (mo_kn hkn)
    refine lv_aload_n hx hb d_Mo_plain_0 rfl (lv_at hl 0 rfl) ?_
    refine va_get (D := (dC, dI)) (ci := 8) (v := .ref rk) (C := "TextForgeModel") (T := TX8) (N := 19) hx hb hg iwX8 hown hK hP 0 rfl rfl 4 (by decide) (hg _ kw_730) (fun _ h9 => h9) rfl d_Mo_plain_1 ?_
    refine lv_iload_n hx hb d_Mo_plain_4 rfl (lv_at hl 1 rfl) ?_
    refine va_iald hx hb hK hP 2 1 rfl rfl (vp_in_nI hj (by decide)) d_Mo_plain_5 ?_
    rw [nI_clamp (show j < 2 ^ 31 by omega), hk9]
    refine lv_iconst (v := 1) hx hb d_Mo_plain_6 (by decide) ?_
    refine lv_icmp_gt (tgt := 35) hx hb d_Mo_plain_7 (by decide) (fun c9 => by first | exact absurd c9 (nI_nlt (a := 1) (b := k) (by omega) (by decide)) | exact absurd (nI_nlt (a := 1) (b := k) (by omega) (by decide)) c9) (fun _ => ?_)
    refine lv_aload_n hx hb d_Mo_plain_10 rfl (lv_at hl 0 rfl) ?_
    refine lv_iload_n hx hb d_Mo_plain_11 rfl (lv_at hl 1 rfl) ?_
    have hPc := hP.sub (ws' := [(mo, .inr (8, [.int th, .int fd, .ref rt, .int mn, .ref rk, .ref rv, .ref rw, .ref ro, .int md, .ref rr, .int (nI P.length), .ref ra, .long pz, .int kc, .ref rc, .ref rl, .ref rb, .int la, .int ca])), (rk, .inl (cI, 16, .inl fk)), (rv, .inl (cL, 16, .inr (.inl fv)))]) [0, 2, 3] rfl
    have hKc := hK.sub (tys' := [(cI, .int), (cL, .long)]) [1, 2] rfl
    refine vp_callSi (W.runV (As := [.int (nI j)]) (rest := []) ⟨hx, hb, hml, hown, hg⟩ (c_Mo_isBelow l dC dI mo rt rk rv rw ro rr ra rc rl rb th fd mn md (nI P.length) pz kc la ca cI cL fk fv j hj) (cwV 1 hg (gi_V kw_859 kw_861 sw_15 kw_9 kw_862) rfl rfl rfl (by decide +kernel) ⟨Nat.le_of_ble_eq_true rfl, Nat.le_of_ble_eq_true rfl⟩) (zz_prJV hPc hKc _ (q0 := 0) (ci := 8) rfl rfl) rfl rfl hl.1 rfl (lv_room (Nat.le_of_ble_eq_true rfl)) d_Mo_plain_12 ⟨Nat.le_of_ble_eq_true rfl, Nat.le_of_ble_eq_true rfl⟩) (fun r_1 hr_1 => ?_)
    rw [hk9, hmg.2.1] at hr_1
    refine lv_if_eq (tgt := 24) hx hb d_Mo_plain_15 (by decide) (fun c_15 => ?_) (fun c_15 => ?_)
    · skip
      have hbb : ar_b (nI k) x = false := by_z_f hr_1 c_15
      refine lv_aload_n hx hb d_Mo_plain_24 rfl (lv_at hl 0 rfl) ?_
      refine lv_iload_n hx hb d_Mo_plain_25 rfl (lv_at hl 1 rfl) ?_
      refine lv_bipush (v := 10) hx hb d_Mo_plain_26 (by decide) ?_
      refine lv_iconst (v := 0) hx hb d_Mo_plain_28 (by decide) ?_
      have hPc := hP.sub (ws' := [(mo, .inr (8, [.int th, .int fd, .ref rt, .int mn, .ref rk, .ref rv, .ref rw, .ref ro, .int md, .ref rr, .int (nI P.length), .ref ra, .long pz, .int kc, .ref rc, .ref rl, .ref rb, .int la, .int ca])), (ra, .inl (cB, 16400, .inl fa)), (rk, .inl (cI, 16, .inl fk)), (rv, .inl (cL, 16, .inr (.inl fv)))]) [0, 1, 2, 3] rfl
      have hKc := hK.sub (tys' := [(cB, .byte), (cI, .int), (cL, .long)]) [0, 1, 2] rfl
      have hDc := hD.sub (ws' := [(mo, .inr (8, [.int th, .int fd, .ref rt, .int mn, .ref rk, .ref rv, .ref rw, .ref ro, .int md, .ref rr, .int (nI P.length), .ref ra, .long pz, .int kc, .ref rc, .ref rl, .ref rb, .int la, .int ca])), (ra, .inl (cB, 16400, .inl fa)), (rk, .inl (cI, 16, .inl fk)), (rv, .inl (cL, 16, .inr (.inl fv)))]) [0, 1, 2, 3] (by decide) rfl
      have hFc := va_free (wc := [(mo, .inr (8, [.int th, .int fd, .ref rt, .int mn, .ref rk, .ref rv, .ref rw, .ref ro, .int md, .ref rr, .int (nI P.length), .ref ra, .long pz, .int kc, .ref rc, .ref rl, .ref rb, .int la, .int ca])), (ra, .inl (cB, 16400, .inl fa)), (rk, .inl (cI, 16, .inl fk)), (rv, .inl (cL, 16, .inr (.inl fv)))]) hD hS hA [0, 1, 2, 3] rfl
      refine zz_callv (va_runV (As := [.int (nI j), .int 10, .int 0]) (rest := []) ⟨hx, hb, hml, hown, hg⟩ (c_Mo_sized l dC dI mo rt rk rv rw ro rr ra rc rl rb th fd mn md (nI P.length) pz kc la ca cB fa P cI cL fk fv j 10 false hLa (by (try simp only [List.length_append, List.length_cons, List.length_nil]); omega) hj (by decide) (by decide) s.heap.size) (cwV 3 hg (gi_V kw_867 kw_869 sw_17 kw_9 kw_870) rfl rfl rfl (by decide +kernel) ⟨Nat.le_of_ble_eq_true rfl, Nat.le_of_ble_eq_true rfl⟩) (zz_preV hPc hKc hDc _ (q0 := 0) (ci := 8) rfl rfl) rfl rfl hl.1 rfl (lv_room (Nat.le_of_ble_eq_true rfl)) d_Mo_plain_29 ⟨Nat.le_of_ble_eq_true rfl, Nat.le_of_ble_eq_true rfl⟩) hS hFc (fun u H1 k9 p9 d9 => va_join (wr := [(rw, .inl (cI, 16, .inl fw)), (ro, .inl (cB, 65536, .inl fo))]) hP hD [0, 1, 2, 3] [4, 5] rfl rfl (by decide) (by decide) k9 hFc p9 d9) (fun u H locs hw hP hD hK1 hS => ?_)
      obtain ⟨u_2, rfl⟩ : ∃ z, z = u := ⟨_, rfl⟩
      try dsimp only at hw
      have hP : va_P (dC, dI) vwCl [(rw, .inl (cI, 16, .inl fw)), (ro, .inl (cB, 65536, .inl fo)), (mo, .inr (8, [.int th, .int fd, .ref rt, .int mn, .ref rk, .ref rv, .ref rw, .ref ro, .int md, .ref rr, .int (nI (P ++ (nu_f 10 (dg_t false) 64 (ar_m (fk j) (fv j))).reverse).length), .ref ra, .long pz, .int kc, .ref rc, .ref rl, .ref rb, .int la, .int ca])), (ra, .inl (cB, 16400, .inl u_2)), (rk, .inl (cI, 16, .inl fk)), (rv, .inl (cL, 16, .inr (.inl fv)))] H := hP
      have hD : va_D A [(rw, .inl (cI, 16, .inl fw)), (ro, .inl (cB, 65536, .inl fo)), (mo, .inr (8, [.int th, .int fd, .ref rt, .int mn, .ref rk, .ref rv, .ref rw, .ref ro, .int md, .ref rr, .int (nI (P ++ (nu_f 10 (dg_t false) 64 (ar_m (fk j) (fv j))).reverse).length), .ref ra, .long pz, .int kc, .ref rc, .ref rl, .ref rb, .int la, .int ca])), (ra, .inl (cB, 16400, .inl u_2)), (rk, .inl (cI, 16, .inl fk)), (rv, .inl (cL, 16, .inr (.inl fv)))] := hD
      have hL_4 := hw
      refine lv_goto (tgt := 121) hx hb d_Mo_plain_32 (by decide) ?_
      have hP9 := hP.sub (ws' := [(mo, .inr (8, [.int th, .int fd, .ref rt, .int mn, .ref rk, .ref rv, .ref rw, .ref ro, .int md, .ref rr, .int (nI (P ++ (nu_f 10 (dg_t false) 64 (ar_m (fk j) (fv j))).reverse).length), .ref ra, .long pz, .int kc, .ref rc, .ref rl, .ref rb, .int la, .int ca])), (ra, .inl (cB, 16400, .inl u_2)), (rk, .inl (cI, 16, .inl fk)), (rv, .inl (cL, 16, .inr (.inl fv))), (rw, .inl (cI, 16, .inl fw)), (ro, .inl (cB, 65536, .inl fo))]) [2, 3, 4, 5, 0, 1] rfl
      have hD9 := hD.sub (ws' := [(mo, .inr (8, [.int th, .int fd, .ref rt, .int mn, .ref rk, .ref rv, .ref rw, .ref ro, .int md, .ref rr, .int (nI (P ++ (nu_f 10 (dg_t false) 64 (ar_m (fk j) (fv j))).reverse).length), .ref ra, .long pz, .int kc, .ref rc, .ref rl, .ref rb, .int la, .int ca])), (ra, .inl (cB, 16400, .inl u_2)), (rk, .inl (cI, 16, .inl fk)), (rv, .inl (cL, 16, .inr (.inl fv))), (rw, .inl (cI, 16, .inl fw)), (ro, .inl (cB, 65536, .inl fo))]) [2, 3, 4, 5, 0, 1] (by decide) rfl
      have hK9 := hK.sub (tys' := [(cB, .byte), (cI, .int), (cL, .long)]) [0, 1, 2] rfl
      rw [show (P ++ (nu_f 10 (dg_t false) 64 (ar_m (fk j) (fv j))).reverse) = (P ++ (mo_p k x B)) from (by rw [hk9, hmg.2.1]; exact mo_pn0 hkn hbb)] at hP9 hD9
      exact zz_vret hx hb hr hlocks d_Mo_plain_121 hS (by first | exact Nat.le_refl _ | decide | omega | (dsimp only; omega)) (by first | exact Nat.le_refl _ | decide | omega | (dsimp only; omega)) u_2 (by rw [show (P ++ (nu_f 10 (dg_t false) 64 (ar_m (fk j) (fv j))).reverse) = (P ++ (mo_p k x B)) from (by rw [hk9, hmg.2.1]; exact mo_pn0 hkn hbb)] at hL_4; exact hL_4) hP9 hK9 hD9
    · skip
      have hbb : ar_b (nI k) x = true := by_z_t hr_1 c_15
      refine lv_aload_n hx hb d_Mo_plain_18 rfl (lv_at hl 0 rfl) ?_
      refine lv_bipush (v := 45) hx hb d_Mo_plain_19 (by decide) ?_
      have hPc := hP.sub (ws' := [(mo, .inr (8, [.int th, .int fd, .ref rt, .int mn, .ref rk, .ref rv, .ref rw, .ref ro, .int md, .ref rr, .int (nI P.length), .ref ra, .long pz, .int kc, .ref rc, .ref rl, .ref rb, .int la, .int ca])), (ra, .inl (cB, 16400, .inl fa))]) [0, 1] rfl
      have hKc := hK.sub (tys' := [(cB, .byte)]) [0] rfl
      have hDc := hD.sub (ws' := [(mo, .inr (8, [.int th, .int fd, .ref rt, .int mn, .ref rk, .ref rv, .ref rw, .ref ro, .int md, .ref rr, .int (nI P.length), .ref ra, .long pz, .int kc, .ref rc, .ref rl, .ref rb, .int la, .int ca])), (ra, .inl (cB, 16400, .inl fa))]) [0, 1] (by decide) rfl
      have hFc := va_free (wc := [(mo, .inr (8, [.int th, .int fd, .ref rt, .int mn, .ref rk, .ref rv, .ref rw, .ref ro, .int md, .ref rr, .int (nI P.length), .ref ra, .long pz, .int kc, .ref rc, .ref rl, .ref rb, .int la, .int ca])), (ra, .inl (cB, 16400, .inl fa))]) hD hS hA [0, 1] rfl
      refine zz_callv (va_runV (As := [.int 45]) (rest := []) ⟨hx, hb, hml, hown, hg⟩ (c_Mo_put l dC dI mo rt rk rv rw ro rr ra rc rl rb th fd mn md (nI P.length) pz kc la ca cB fa P 45 hLa (by (try simp only [List.length_append, List.length_cons, List.length_nil]); omega) s.heap.size) (cwV 1 hg (gi_V kw_863 kw_865 sw_16 kw_9 kw_866) rfl rfl rfl (by decide +kernel) ⟨Nat.le_of_ble_eq_true rfl, Nat.le_of_ble_eq_true rfl⟩) (zz_preV hPc hKc hDc _ (q0 := 0) (ci := 8) rfl rfl) rfl rfl hl.1 rfl (lv_room (Nat.le_of_ble_eq_true rfl)) d_Mo_plain_21 ⟨Nat.le_of_ble_eq_true rfl, Nat.le_of_ble_eq_true rfl⟩) hS hFc (fun u H1 k9 p9 d9 => va_join (wr := [(rk, .inl (cI, 16, .inl fk)), (rv, .inl (cL, 16, .inr (.inl fv))), (rw, .inl (cI, 16, .inl fw)), (ro, .inl (cB, 65536, .inl fo))]) hP hD [0, 1] [2, 3, 4, 5] rfl rfl (by decide) (by decide) k9 hFc p9 d9) (fun u H locs hw hP hD hK1 hS => ?_)
      obtain ⟨u_5, rfl⟩ : ∃ z, z = u := ⟨_, rfl⟩
      try dsimp only at hw
      have hP : va_P (dC, dI) vwCl [(rk, .inl (cI, 16, .inl fk)), (rv, .inl (cL, 16, .inr (.inl fv))), (rw, .inl (cI, 16, .inl fw)), (ro, .inl (cB, 65536, .inl fo)), (mo, .inr (8, [.int th, .int fd, .ref rt, .int mn, .ref rk, .ref rv, .ref rw, .ref ro, .int md, .ref rr, .int (nI (P ++ [by_b 45]).length), .ref ra, .long pz, .int kc, .ref rc, .ref rl, .ref rb, .int la, .int ca])), (ra, .inl (cB, 16400, .inl u_5))] H := hP
      have hD : va_D A [(rk, .inl (cI, 16, .inl fk)), (rv, .inl (cL, 16, .inr (.inl fv))), (rw, .inl (cI, 16, .inl fw)), (ro, .inl (cB, 65536, .inl fo)), (mo, .inr (8, [.int th, .int fd, .ref rt, .int mn, .ref rk, .ref rv, .ref rw, .ref ro, .int md, .ref rr, .int (nI (P ++ [by_b 45]).length), .ref ra, .long pz, .int kc, .ref rc, .ref rl, .ref rb, .int la, .int ca])), (ra, .inl (cB, 16400, .inl u_5))] := hD
      have hL_7 := hw
      refine lv_aload_n hx hb d_Mo_plain_24 rfl (lv_at hl 0 rfl) ?_
      refine lv_iload_n hx hb d_Mo_plain_25 rfl (lv_at hl 1 rfl) ?_
      refine lv_bipush (v := 10) hx hb d_Mo_plain_26 (by decide) ?_
      refine lv_iconst (v := 0) hx hb d_Mo_plain_28 (by decide) ?_
      have hPc := hP.sub (ws' := [(mo, .inr (8, [.int th, .int fd, .ref rt, .int mn, .ref rk, .ref rv, .ref rw, .ref ro, .int md, .ref rr, .int (nI (P ++ [by_b 45]).length), .ref ra, .long pz, .int kc, .ref rc, .ref rl, .ref rb, .int la, .int ca])), (ra, .inl (cB, 16400, .inl u_5)), (rk, .inl (cI, 16, .inl fk)), (rv, .inl (cL, 16, .inr (.inl fv)))]) [4, 5, 0, 1] rfl
      have hKc := hK.sub (tys' := [(cB, .byte), (cI, .int), (cL, .long)]) [0, 1, 2] rfl
      have hDc := hD.sub (ws' := [(mo, .inr (8, [.int th, .int fd, .ref rt, .int mn, .ref rk, .ref rv, .ref rw, .ref ro, .int md, .ref rr, .int (nI (P ++ [by_b 45]).length), .ref ra, .long pz, .int kc, .ref rc, .ref rl, .ref rb, .int la, .int ca])), (ra, .inl (cB, 16400, .inl u_5)), (rk, .inl (cI, 16, .inl fk)), (rv, .inl (cL, 16, .inr (.inl fv)))]) [4, 5, 0, 1] (by decide) rfl
      have hFc := va_free (wc := [(mo, .inr (8, [.int th, .int fd, .ref rt, .int mn, .ref rk, .ref rv, .ref rw, .ref ro, .int md, .ref rr, .int (nI (P ++ [by_b 45]).length), .ref ra, .long pz, .int kc, .ref rc, .ref rl, .ref rb, .int la, .int ca])), (ra, .inl (cB, 16400, .inl u_5)), (rk, .inl (cI, 16, .inl fk)), (rv, .inl (cL, 16, .inr (.inl fv)))]) hD hS hA [4, 5, 0, 1] rfl
      refine zz_callv (va_runV (As := [.int (nI j), .int 10, .int 0]) (rest := []) ⟨hx, hb, hml, hown, hg⟩ (c_Mo_sized l dC dI mo rt rk rv rw ro rr ra rc rl rb th fd mn md (nI (P ++ [by_b 45]).length) pz kc la ca cB u_5 (P ++ [by_b 45]) cI cL fk fv j 10 false hL_7 (by (try simp only [List.length_append, List.length_cons, List.length_nil]); omega) hj (by decide) (by decide) H.size) (cwV 3 hg (gi_V kw_867 kw_869 sw_17 kw_9 kw_870) rfl rfl rfl (by decide +kernel) ⟨Nat.le_of_ble_eq_true rfl, Nat.le_of_ble_eq_true rfl⟩) (zz_preV hPc hKc hDc _ (q0 := 0) (ci := 8) rfl rfl) rfl rfl hl.1 rfl (lv_room (Nat.le_of_ble_eq_true rfl)) d_Mo_plain_29 ⟨Nat.le_of_ble_eq_true rfl, Nat.le_of_ble_eq_true rfl⟩) hS hFc (fun u H1 k9 p9 d9 => va_join (wr := [(rw, .inl (cI, 16, .inl fw)), (ro, .inl (cB, 65536, .inl fo))]) hP hD [4, 5, 0, 1] [2, 3] rfl rfl (by decide) (by decide) k9 hFc p9 d9) (fun u H locs hw hP hD hK1 hS => ?_)
      obtain ⟨u_8, rfl⟩ : ∃ z, z = u := ⟨_, rfl⟩
      try dsimp only at hw
      have hP : va_P (dC, dI) vwCl [(rw, .inl (cI, 16, .inl fw)), (ro, .inl (cB, 65536, .inl fo)), (mo, .inr (8, [.int th, .int fd, .ref rt, .int mn, .ref rk, .ref rv, .ref rw, .ref ro, .int md, .ref rr, .int (nI ((P ++ [by_b 45]) ++ (nu_f 10 (dg_t false) 64 (ar_m (fk j) (fv j))).reverse).length), .ref ra, .long pz, .int kc, .ref rc, .ref rl, .ref rb, .int la, .int ca])), (ra, .inl (cB, 16400, .inl u_8)), (rk, .inl (cI, 16, .inl fk)), (rv, .inl (cL, 16, .inr (.inl fv)))] H := hP
      have hD : va_D A [(rw, .inl (cI, 16, .inl fw)), (ro, .inl (cB, 65536, .inl fo)), (mo, .inr (8, [.int th, .int fd, .ref rt, .int mn, .ref rk, .ref rv, .ref rw, .ref ro, .int md, .ref rr, .int (nI ((P ++ [by_b 45]) ++ (nu_f 10 (dg_t false) 64 (ar_m (fk j) (fv j))).reverse).length), .ref ra, .long pz, .int kc, .ref rc, .ref rl, .ref rb, .int la, .int ca])), (ra, .inl (cB, 16400, .inl u_8)), (rk, .inl (cI, 16, .inl fk)), (rv, .inl (cL, 16, .inr (.inl fv)))] := hD
      have hL_10 := hw
      refine lv_goto (tgt := 121) hx hb d_Mo_plain_32 (by decide) ?_
      have hP9 := hP.sub (ws' := [(mo, .inr (8, [.int th, .int fd, .ref rt, .int mn, .ref rk, .ref rv, .ref rw, .ref ro, .int md, .ref rr, .int (nI ((P ++ [by_b 45]) ++ (nu_f 10 (dg_t false) 64 (ar_m (fk j) (fv j))).reverse).length), .ref ra, .long pz, .int kc, .ref rc, .ref rl, .ref rb, .int la, .int ca])), (ra, .inl (cB, 16400, .inl u_8)), (rk, .inl (cI, 16, .inl fk)), (rv, .inl (cL, 16, .inr (.inl fv))), (rw, .inl (cI, 16, .inl fw)), (ro, .inl (cB, 65536, .inl fo))]) [2, 3, 4, 5, 0, 1] rfl
      have hD9 := hD.sub (ws' := [(mo, .inr (8, [.int th, .int fd, .ref rt, .int mn, .ref rk, .ref rv, .ref rw, .ref ro, .int md, .ref rr, .int (nI ((P ++ [by_b 45]) ++ (nu_f 10 (dg_t false) 64 (ar_m (fk j) (fv j))).reverse).length), .ref ra, .long pz, .int kc, .ref rc, .ref rl, .ref rb, .int la, .int ca])), (ra, .inl (cB, 16400, .inl u_8)), (rk, .inl (cI, 16, .inl fk)), (rv, .inl (cL, 16, .inr (.inl fv))), (rw, .inl (cI, 16, .inl fw)), (ro, .inl (cB, 65536, .inl fo))]) [2, 3, 4, 5, 0, 1] (by decide) rfl
      have hK9 := hK.sub (tys' := [(cB, .byte), (cI, .int), (cL, .long)]) [0, 1, 2] rfl
      rw [show ((P ++ [by_b 45]) ++ (nu_f 10 (dg_t false) 64 (ar_m (fk j) (fv j))).reverse) = (P ++ (mo_p k x B)) from (by rw [hk9, hmg.2.1]; exact mo_pn1 hkn hbb)] at hP9 hD9
      exact zz_vret hx hb hr hlocks d_Mo_plain_121 hS (by first | exact Nat.le_refl _ | decide | omega | (dsimp only; omega)) (by first | exact Nat.le_refl _ | decide | omega | (dsimp only; omega)) u_8 (by rw [show ((P ++ [by_b 45]) ++ (nu_f 10 (dg_t false) 64 (ar_m (fk j) (fv j))).reverse) = (P ++ (mo_p k x B)) from (by rw [hk9, hmg.2.1]; exact mo_pn1 hkn hbb)] at hL_10; exact hL_10) hP9 hK9 hD9
  · skip
    have hk9 : fk j = 3 := by rw [hmg.1, hk3]; rfl
    refine lv_aload_n hx hb d_Mo_plain_0 rfl (lv_at hl 0 rfl) ?_
    refine va_get (D := (dC, dI)) (ci := 8) (v := .ref rk) (C := "TextForgeModel") (T := TX8) (N := 19) hx hb hg iwX8 hown hK hP 0 rfl rfl 4 (by decide) (hg _ kw_730) (fun _ h9 => h9) rfl d_Mo_plain_1 ?_
    refine lv_iload_n hx hb d_Mo_plain_4 rfl (lv_at hl 1 rfl) ?_
    refine va_iald hx hb hK hP 2 1 rfl rfl (vp_in_nI hj (by decide)) d_Mo_plain_5 ?_
    rw [nI_clamp (show j < 2 ^ 31 by omega), hk9]
    refine lv_iconst (v := 1) hx hb d_Mo_plain_6 (by decide) ?_
    refine lv_icmp_gt (tgt := 35) hx hb d_Mo_plain_7 (by decide) (fun _ => ?_) (fun c9 => by first | exact absurd c9 (by decide) | exact absurd (by decide) c9)
    refine lv_aload_n hx hb d_Mo_plain_35 rfl (lv_at hl 0 rfl) ?_
    refine va_get (D := (dC, dI)) (ci := 8) (v := .ref rk) (C := "TextForgeModel") (T := TX8) (N := 19) hx hb hg iwX8 hown hK hP 0 rfl rfl 4 (by decide) (hg _ kw_730) (fun _ h9 => h9) rfl d_Mo_plain_36 ?_
    refine lv_iload_n hx hb d_Mo_plain_39 rfl (lv_at hl 1 rfl) ?_
    refine va_iald hx hb hK hP 2 1 rfl rfl (vp_in_nI hj (by decide)) d_Mo_plain_40 ?_
    rw [nI_clamp (show j < 2 ^ 31 by omega), hk9]
    refine lv_iconst (v := 2) hx hb d_Mo_plain_41 (by decide) ?_
    refine lv_icmp_ne (tgt := 70) hx hb d_Mo_plain_42 (by decide) (fun _ => ?_) (fun c9 => by first | exact absurd c9 (by decide) | exact absurd (by decide) c9)
    refine lv_aload_n hx hb d_Mo_plain_70 rfl (lv_at hl 0 rfl) ?_
    refine va_get (D := (dC, dI)) (ci := 8) (v := .ref rk) (C := "TextForgeModel") (T := TX8) (N := 19) hx hb hg iwX8 hown hK hP 0 rfl rfl 4 (by decide) (hg _ kw_730) (fun _ h9 => h9) rfl d_Mo_plain_71 ?_
    refine lv_iload_n hx hb d_Mo_plain_74 rfl (lv_at hl 1 rfl) ?_
    refine va_iald hx hb hK hP 2 1 rfl rfl (vp_in_nI hj (by decide)) d_Mo_plain_75 ?_
    rw [nI_clamp (show j < 2 ^ 31 by omega), hk9]
    refine lv_iconst (v := 3) hx hb d_Mo_plain_76 (by decide) ?_
    refine lv_icmp_ne (tgt := 88) hx hb d_Mo_plain_77 (by decide) (fun c9 => by first | exact absurd c9 (by decide) | exact absurd (by decide) c9) (fun _ => ?_)
    refine lv_aload_n hx hb d_Mo_plain_80 rfl (lv_at hl 0 rfl) ?_
    refine lv_iload_n hx hb d_Mo_plain_81 rfl (lv_at hl 1 rfl) ?_
    have hPc := hP.sub (ws' := [(mo, .inr (8, [.int th, .int fd, .ref rt, .int mn, .ref rk, .ref rv, .ref rw, .ref ro, .int md, .ref rr, .int (nI P.length), .ref ra, .long pz, .int kc, .ref rc, .ref rl, .ref rb, .int la, .int ca])), (ra, .inl (cB, 16400, .inl fa)), (rw, .inl (cI, 16, .inl fw)), (ro, .inl (cB, 65536, .inl fo))]) [0, 1, 4, 5] rfl
    have hKc := hK.sub (tys' := [(cB, .byte), (cI, .int)]) [0, 1] rfl
    have hDc := hD.sub (ws' := [(mo, .inr (8, [.int th, .int fd, .ref rt, .int mn, .ref rk, .ref rv, .ref rw, .ref ro, .int md, .ref rr, .int (nI P.length), .ref ra, .long pz, .int kc, .ref rc, .ref rl, .ref rb, .int la, .int ca])), (ra, .inl (cB, 16400, .inl fa)), (rw, .inl (cI, 16, .inl fw)), (ro, .inl (cB, 65536, .inl fo))]) [0, 1, 4, 5] (by decide) rfl
    have hFc := va_free (wc := [(mo, .inr (8, [.int th, .int fd, .ref rt, .int mn, .ref rk, .ref rv, .ref rw, .ref ro, .int md, .ref rr, .int (nI P.length), .ref ra, .long pz, .int kc, .ref rc, .ref rl, .ref rb, .int la, .int ca])), (ra, .inl (cB, 16400, .inl fa)), (rw, .inl (cI, 16, .inl fw)), (ro, .inl (cB, 65536, .inl fo))]) hD hS hA [0, 1, 4, 5] rfl
    refine zz_callv (va_runV (As := [.int (nI j)]) (rest := []) ⟨hx, hb, hml, hown, hg⟩ (c_Mo_textOf l dC dI mo rt rk rv rw ro rr ra rc rl rb th fd mn md (nI P.length) pz kc la ca cB fa P cI fw fo j B hLa (by (try simp only [List.length_append, List.length_cons, List.length_nil]); omega) hj (hmg.2.2 hk3).1 (hmg.2.2 hk3).2.1 (hmg.2.2 hk3).2.2 s.heap.size) (cwV 1 hg (gi_V kw_900 kw_902 sw_23 kw_9 kw_903) rfl rfl rfl (by decide +kernel) ⟨Nat.le_of_ble_eq_true rfl, Nat.le_of_ble_eq_true rfl⟩) (zz_preV hPc hKc hDc _ (q0 := 0) (ci := 8) rfl rfl) rfl rfl hl.1 rfl (lv_room (Nat.le_of_ble_eq_true rfl)) d_Mo_plain_82 ⟨Nat.le_of_ble_eq_true rfl, Nat.le_of_ble_eq_true rfl⟩) hS hFc (fun u H1 k9 p9 d9 => va_join (wr := [(rk, .inl (cI, 16, .inl fk)), (rv, .inl (cL, 16, .inr (.inl fv)))]) hP hD [0, 1, 4, 5] [2, 3] rfl rfl (by decide) (by decide) k9 hFc p9 d9) (fun u H locs hw hP hD hK1 hS => ?_)
    obtain ⟨u_11, rfl⟩ : ∃ z, z = u := ⟨_, rfl⟩
    try dsimp only at hw
    have hP : va_P (dC, dI) vwCl [(rk, .inl (cI, 16, .inl fk)), (rv, .inl (cL, 16, .inr (.inl fv))), (mo, .inr (8, [.int th, .int fd, .ref rt, .int mn, .ref rk, .ref rv, .ref rw, .ref ro, .int md, .ref rr, .int (nI (P ++ B).length), .ref ra, .long pz, .int kc, .ref rc, .ref rl, .ref rb, .int la, .int ca])), (ra, .inl (cB, 16400, .inl u_11)), (rw, .inl (cI, 16, .inl fw)), (ro, .inl (cB, 65536, .inl fo))] H := hP
    have hD : va_D A [(rk, .inl (cI, 16, .inl fk)), (rv, .inl (cL, 16, .inr (.inl fv))), (mo, .inr (8, [.int th, .int fd, .ref rt, .int mn, .ref rk, .ref rv, .ref rw, .ref ro, .int md, .ref rr, .int (nI (P ++ B).length), .ref ra, .long pz, .int kc, .ref rc, .ref rl, .ref rb, .int la, .int ca])), (ra, .inl (cB, 16400, .inl u_11)), (rw, .inl (cI, 16, .inl fw)), (ro, .inl (cB, 65536, .inl fo))] := hD
    have hL_13 := hw
    refine lv_goto (tgt := 121) hx hb d_Mo_plain_85 (by decide) ?_
    have hP9 := hP.sub (ws' := [(mo, .inr (8, [.int th, .int fd, .ref rt, .int mn, .ref rk, .ref rv, .ref rw, .ref ro, .int md, .ref rr, .int (nI (P ++ B).length), .ref ra, .long pz, .int kc, .ref rc, .ref rl, .ref rb, .int la, .int ca])), (ra, .inl (cB, 16400, .inl u_11)), (rk, .inl (cI, 16, .inl fk)), (rv, .inl (cL, 16, .inr (.inl fv))), (rw, .inl (cI, 16, .inl fw)), (ro, .inl (cB, 65536, .inl fo))]) [2, 3, 0, 1, 4, 5] rfl
    have hD9 := hD.sub (ws' := [(mo, .inr (8, [.int th, .int fd, .ref rt, .int mn, .ref rk, .ref rv, .ref rw, .ref ro, .int md, .ref rr, .int (nI (P ++ B).length), .ref ra, .long pz, .int kc, .ref rc, .ref rl, .ref rb, .int la, .int ca])), (ra, .inl (cB, 16400, .inl u_11)), (rk, .inl (cI, 16, .inl fk)), (rv, .inl (cL, 16, .inr (.inl fv))), (rw, .inl (cI, 16, .inl fw)), (ro, .inl (cB, 65536, .inl fo))]) [2, 3, 0, 1, 4, 5] (by decide) rfl
    have hK9 := hK.sub (tys' := [(cB, .byte), (cI, .int), (cL, .long)]) [0, 1, 2] rfl
    rw [show (P ++ B) = (P ++ (mo_p k x B)) from (mo_pt hk3)] at hP9 hD9
    exact zz_vret hx hb hr hlocks d_Mo_plain_121 hS (by first | exact Nat.le_refl _ | decide | omega | (dsimp only; omega)) (by first | exact Nat.le_refl _ | decide | omega | (dsimp only; omega)) u_11 (by rw [show (P ++ B) = (P ++ (mo_p k x B)) from (mo_pt hk3)] at hL_13; exact hL_13) hP9 hK9 hD9
  · skip
    have hk9 : fk j = 2 := by rw [hmg.1, hk2]; rfl
    refine lv_aload_n hx hb d_Mo_plain_0 rfl (lv_at hl 0 rfl) ?_
    refine va_get (D := (dC, dI)) (ci := 8) (v := .ref rk) (C := "TextForgeModel") (T := TX8) (N := 19) hx hb hg iwX8 hown hK hP 0 rfl rfl 4 (by decide) (hg _ kw_730) (fun _ h9 => h9) rfl d_Mo_plain_1 ?_
    refine lv_iload_n hx hb d_Mo_plain_4 rfl (lv_at hl 1 rfl) ?_
    refine va_iald hx hb hK hP 2 1 rfl rfl (vp_in_nI hj (by decide)) d_Mo_plain_5 ?_
    rw [nI_clamp (show j < 2 ^ 31 by omega), hk9]
    refine lv_iconst (v := 1) hx hb d_Mo_plain_6 (by decide) ?_
    refine lv_icmp_gt (tgt := 35) hx hb d_Mo_plain_7 (by decide) (fun _ => ?_) (fun c9 => by first | exact absurd c9 (by decide) | exact absurd (by decide) c9)
    refine lv_aload_n hx hb d_Mo_plain_35 rfl (lv_at hl 0 rfl) ?_
    refine va_get (D := (dC, dI)) (ci := 8) (v := .ref rk) (C := "TextForgeModel") (T := TX8) (N := 19) hx hb hg iwX8 hown hK hP 0 rfl rfl 4 (by decide) (hg _ kw_730) (fun _ h9 => h9) rfl d_Mo_plain_36 ?_
    refine lv_iload_n hx hb d_Mo_plain_39 rfl (lv_at hl 1 rfl) ?_
    refine va_iald hx hb hK hP 2 1 rfl rfl (vp_in_nI hj (by decide)) d_Mo_plain_40 ?_
    rw [nI_clamp (show j < 2 ^ 31 by omega), hk9]
    refine lv_iconst (v := 2) hx hb d_Mo_plain_41 (by decide) ?_
    refine lv_icmp_ne (tgt := 70) hx hb d_Mo_plain_42 (by decide) (fun c9 => by first | exact absurd c9 (by decide) | exact absurd (by decide) c9) (fun _ => ?_)
    refine lv_aload_n hx hb d_Mo_plain_45 rfl (lv_at hl 0 rfl) ?_
    refine lv_aload_n hx hb d_Mo_plain_46 rfl (lv_at hl 0 rfl) ?_
    refine va_get (D := (dC, dI)) (ci := 8) (v := .ref rv) (C := "TextForgeModel") (T := TX8) (N := 19) hx hb hg iwX8 hown hK hP 0 rfl rfl 5 (by decide) (hg _ kw_731) (fun _ h9 => h9) rfl d_Mo_plain_47 ?_
    refine lv_iload_n hx hb d_Mo_plain_50 rfl (lv_at hl 1 rfl) ?_
    refine va_lald hx hb hK hP 3 2 rfl rfl (vp_in_nI hj (by decide)) d_Mo_plain_51 ?_
    refine lv_topl (fun y_14 ey_14 => ?_)
    have ey_14 : y_14 = (0 : Int64) := ey_14.trans (show (fv (nI j).toNatClampNeg) = 0 from (by rw [nI_clamp (show j < 2 ^ 31 by omega), hmg.2.1, hxx]))
    subst ey_14
    refine lv_lconst (v := 1) hx hb d_Mo_plain_52 (by decide) ?_
    refine W.lcmp hx hb d_Mo_plain_53 ?_
    refine lv_if_ne (tgt := 62) hx hb d_Mo_plain_54 (by decide) (fun _ => ?_) (fun c9 => by first | exact absurd c9 (by decide) | exact absurd (by decide) c9)
    refine va_ldcS (q := ad 22) hx hb hown (show vk_R "TextForgeModel" 161 "false" (ad 22) s from (hX.2.1 22 (by decide)).1) d_Mo_plain_62 ?_
    have hPc := hP.sub (ws' := [(mo, .inr (8, [.int th, .int fd, .ref rt, .int mn, .ref rk, .ref rv, .ref rw, .ref ro, .int md, .ref rr, .int (nI P.length), .ref ra, .long pz, .int kc, .ref rc, .ref rl, .ref rb, .int la, .int ca])), (ra, .inl (cB, 16400, .inl fa))]) [0, 1] rfl
    have hKc := hK.sub (tys' := [(cB, .byte)]) [0] rfl
    have hDc := hD.sub (ws' := [(mo, .inr (8, [.int th, .int fd, .ref rt, .int mn, .ref rk, .ref rv, .ref rw, .ref ro, .int md, .ref rr, .int (nI P.length), .ref ra, .long pz, .int kc, .ref rc, .ref rl, .ref rb, .int la, .int ca])), (ra, .inl (cB, 16400, .inl fa))]) [0, 1] (by decide) rfl
    have hFc := va_free (wc := [(mo, .inr (8, [.int th, .int fd, .ref rt, .int mn, .ref rk, .ref rv, .ref rw, .ref ro, .int md, .ref rr, .int (nI P.length), .ref ra, .long pz, .int kc, .ref rc, .ref rl, .ref rb, .int la, .int ca])), (ra, .inl (cB, 16400, .inl fa))]) hD hS hA [0, 1] rfl
    refine zz_callv (va_runV (As := [.ref (ad 22)]) (rest := []) ⟨hx, hb, hml, hown, hg⟩ (c_Mo_putS l dC dI ad mo rt rk rv rw ro rr ra rc rl rb th fd mn md (nI P.length) pz kc la ca cB fa P 22 hLa (by (try simp only [List.length_append, List.length_cons, List.length_nil]); omega) (show _ < 33 by omega) s.heap.size) (cwV 1 hg (gi_V kw_914 kw_916 sw_26 kw_9 kw_917) rfl rfl rfl (by decide +kernel) ⟨Nat.le_of_ble_eq_true rfl, Nat.le_of_ble_eq_true rfl⟩) (zy_preV hX hS hFc hPc hKc hDc _ (q0 := 0) (ci := 8) rfl rfl) rfl rfl hl.1 rfl (lv_room (Nat.le_of_ble_eq_true rfl)) d_Mo_plain_64 ⟨Nat.le_of_ble_eq_true rfl, Nat.le_of_ble_eq_true rfl⟩) hS hFc (fun u H1 k9 p9 d9 => va_join (wr := [(rk, .inl (cI, 16, .inl fk)), (rv, .inl (cL, 16, .inr (.inl fv))), (rw, .inl (cI, 16, .inl fw)), (ro, .inl (cB, 65536, .inl fo))]) hP hD [0, 1] [2, 3, 4, 5] rfl rfl (by decide) (by decide) k9 hFc p9 d9) (fun u H locs hw hP hD hK1 hS => ?_)
    obtain ⟨u_15, rfl⟩ : ∃ z, z = u := ⟨_, rfl⟩
    try dsimp only at hw
    have hP : va_P (dC, dI) vwCl [(rk, .inl (cI, 16, .inl fk)), (rv, .inl (cL, 16, .inr (.inl fv))), (rw, .inl (cI, 16, .inl fw)), (ro, .inl (cB, 65536, .inl fo)), (mo, .inr (8, [.int th, .int fd, .ref rt, .int mn, .ref rk, .ref rv, .ref rw, .ref ro, .int md, .ref rr, .int (nI (P ++ (kxB 22)).length), .ref ra, .long pz, .int kc, .ref rc, .ref rl, .ref rb, .int la, .int ca])), (ra, .inl (cB, 16400, .inl u_15))] H := hP
    have hD : va_D A [(rk, .inl (cI, 16, .inl fk)), (rv, .inl (cL, 16, .inr (.inl fv))), (rw, .inl (cI, 16, .inl fw)), (ro, .inl (cB, 65536, .inl fo)), (mo, .inr (8, [.int th, .int fd, .ref rt, .int mn, .ref rk, .ref rv, .ref rw, .ref ro, .int md, .ref rr, .int (nI (P ++ (kxB 22)).length), .ref ra, .long pz, .int kc, .ref rc, .ref rl, .ref rb, .int la, .int ca])), (ra, .inl (cB, 16400, .inl u_15))] := hD
    have hL_17 := hw
    refine lv_goto (tgt := 121) hx hb d_Mo_plain_67 (by decide) ?_
    have hP9 := hP.sub (ws' := [(mo, .inr (8, [.int th, .int fd, .ref rt, .int mn, .ref rk, .ref rv, .ref rw, .ref ro, .int md, .ref rr, .int (nI (P ++ (kxB 22)).length), .ref ra, .long pz, .int kc, .ref rc, .ref rl, .ref rb, .int la, .int ca])), (ra, .inl (cB, 16400, .inl u_15)), (rk, .inl (cI, 16, .inl fk)), (rv, .inl (cL, 16, .inr (.inl fv))), (rw, .inl (cI, 16, .inl fw)), (ro, .inl (cB, 65536, .inl fo))]) [4, 5, 0, 1, 2, 3] rfl
    have hD9 := hD.sub (ws' := [(mo, .inr (8, [.int th, .int fd, .ref rt, .int mn, .ref rk, .ref rv, .ref rw, .ref ro, .int md, .ref rr, .int (nI (P ++ (kxB 22)).length), .ref ra, .long pz, .int kc, .ref rc, .ref rl, .ref rb, .int la, .int ca])), (ra, .inl (cB, 16400, .inl u_15)), (rk, .inl (cI, 16, .inl fk)), (rv, .inl (cL, 16, .inr (.inl fv))), (rw, .inl (cI, 16, .inl fw)), (ro, .inl (cB, 65536, .inl fo))]) [4, 5, 0, 1, 2, 3] (by decide) rfl
    have hK9 := hK.sub (tys' := [(cB, .byte), (cI, .int), (cL, .long)]) [0, 1, 2] rfl
    rw [show (P ++ (kxB 22)) = (P ++ (mo_p k x B)) from (mo_pw (by omega) (by omega) (by rw [hk2, hxx]; decide +kernel))] at hP9 hD9
    exact zz_vret hx hb hr hlocks d_Mo_plain_121 hS (by first | exact Nat.le_refl _ | decide | omega | (dsimp only; omega)) (by first | exact Nat.le_refl _ | decide | omega | (dsimp only; omega)) u_15 (by rw [show (P ++ (kxB 22)) = (P ++ (mo_p k x B)) from (mo_pw (by omega) (by omega) (by rw [hk2, hxx]; decide +kernel))] at hL_17; exact hL_17) hP9 hK9 hD9
  · skip
    have hk9 : fk j = 2 := by rw [hmg.1, hk2]; rfl
    refine lv_aload_n hx hb d_Mo_plain_0 rfl (lv_at hl 0 rfl) ?_
    refine va_get (D := (dC, dI)) (ci := 8) (v := .ref rk) (C := "TextForgeModel") (T := TX8) (N := 19) hx hb hg iwX8 hown hK hP 0 rfl rfl 4 (by decide) (hg _ kw_730) (fun _ h9 => h9) rfl d_Mo_plain_1 ?_
    refine lv_iload_n hx hb d_Mo_plain_4 rfl (lv_at hl 1 rfl) ?_
    refine va_iald hx hb hK hP 2 1 rfl rfl (vp_in_nI hj (by decide)) d_Mo_plain_5 ?_
    rw [nI_clamp (show j < 2 ^ 31 by omega), hk9]
    refine lv_iconst (v := 1) hx hb d_Mo_plain_6 (by decide) ?_
    refine lv_icmp_gt (tgt := 35) hx hb d_Mo_plain_7 (by decide) (fun _ => ?_) (fun c9 => by first | exact absurd c9 (by decide) | exact absurd (by decide) c9)
    refine lv_aload_n hx hb d_Mo_plain_35 rfl (lv_at hl 0 rfl) ?_
    refine va_get (D := (dC, dI)) (ci := 8) (v := .ref rk) (C := "TextForgeModel") (T := TX8) (N := 19) hx hb hg iwX8 hown hK hP 0 rfl rfl 4 (by decide) (hg _ kw_730) (fun _ h9 => h9) rfl d_Mo_plain_36 ?_
    refine lv_iload_n hx hb d_Mo_plain_39 rfl (lv_at hl 1 rfl) ?_
    refine va_iald hx hb hK hP 2 1 rfl rfl (vp_in_nI hj (by decide)) d_Mo_plain_40 ?_
    rw [nI_clamp (show j < 2 ^ 31 by omega), hk9]
    refine lv_iconst (v := 2) hx hb d_Mo_plain_41 (by decide) ?_
    refine lv_icmp_ne (tgt := 70) hx hb d_Mo_plain_42 (by decide) (fun c9 => by first | exact absurd c9 (by decide) | exact absurd (by decide) c9) (fun _ => ?_)
    refine lv_aload_n hx hb d_Mo_plain_45 rfl (lv_at hl 0 rfl) ?_
    refine lv_aload_n hx hb d_Mo_plain_46 rfl (lv_at hl 0 rfl) ?_
    refine va_get (D := (dC, dI)) (ci := 8) (v := .ref rv) (C := "TextForgeModel") (T := TX8) (N := 19) hx hb hg iwX8 hown hK hP 0 rfl rfl 5 (by decide) (hg _ kw_731) (fun _ h9 => h9) rfl d_Mo_plain_47 ?_
    refine lv_iload_n hx hb d_Mo_plain_50 rfl (lv_at hl 1 rfl) ?_
    refine va_lald hx hb hK hP 3 2 rfl rfl (vp_in_nI hj (by decide)) d_Mo_plain_51 ?_
    refine lv_topl (fun y_18 ey_18 => ?_)
    have ey_18 : y_18 = (1 : Int64) := ey_18.trans (show (fv (nI j).toNatClampNeg) = 1 from (by rw [nI_clamp (show j < 2 ^ 31 by omega), hmg.2.1, hxx]))
    subst ey_18
    refine lv_lconst (v := 1) hx hb d_Mo_plain_52 (by decide) ?_
    refine W.lcmp hx hb d_Mo_plain_53 ?_
    refine lv_if_ne (tgt := 62) hx hb d_Mo_plain_54 (by decide) (fun c9 => by first | exact absurd c9 (by decide) | exact absurd (by decide) c9) (fun _ => ?_)
    refine va_ldcS (q := ad 21) hx hb hown (show vk_R "TextForgeModel" 159 "true" (ad 21) s from (hX.2.1 21 (by decide)).1) d_Mo_plain_57 ?_
    refine lv_goto (tgt := 64) hx hb d_Mo_plain_59 (by decide) ?_
    have hPc := hP.sub (ws' := [(mo, .inr (8, [.int th, .int fd, .ref rt, .int mn, .ref rk, .ref rv, .ref rw, .ref ro, .int md, .ref rr, .int (nI P.length), .ref ra, .long pz, .int kc, .ref rc, .ref rl, .ref rb, .int la, .int ca])), (ra, .inl (cB, 16400, .inl fa))]) [0, 1] rfl
    have hKc := hK.sub (tys' := [(cB, .byte)]) [0] rfl
    have hDc := hD.sub (ws' := [(mo, .inr (8, [.int th, .int fd, .ref rt, .int mn, .ref rk, .ref rv, .ref rw, .ref ro, .int md, .ref rr, .int (nI P.length), .ref ra, .long pz, .int kc, .ref rc, .ref rl, .ref rb, .int la, .int ca])), (ra, .inl (cB, 16400, .inl fa))]) [0, 1] (by decide) rfl
    have hFc := va_free (wc := [(mo, .inr (8, [.int th, .int fd, .ref rt, .int mn, .ref rk, .ref rv, .ref rw, .ref ro, .int md, .ref rr, .int (nI P.length), .ref ra, .long pz, .int kc, .ref rc, .ref rl, .ref rb, .int la, .int ca])), (ra, .inl (cB, 16400, .inl fa))]) hD hS hA [0, 1] rfl
    refine zz_callv (va_runV (As := [.ref (ad 21)]) (rest := []) ⟨hx, hb, hml, hown, hg⟩ (c_Mo_putS l dC dI ad mo rt rk rv rw ro rr ra rc rl rb th fd mn md (nI P.length) pz kc la ca cB fa P 21 hLa (by (try simp only [List.length_append, List.length_cons, List.length_nil]); omega) (show _ < 33 by omega) s.heap.size) (cwV 1 hg (gi_V kw_914 kw_916 sw_26 kw_9 kw_917) rfl rfl rfl (by decide +kernel) ⟨Nat.le_of_ble_eq_true rfl, Nat.le_of_ble_eq_true rfl⟩) (zy_preV hX hS hFc hPc hKc hDc _ (q0 := 0) (ci := 8) rfl rfl) rfl rfl hl.1 rfl (lv_room (Nat.le_of_ble_eq_true rfl)) d_Mo_plain_64 ⟨Nat.le_of_ble_eq_true rfl, Nat.le_of_ble_eq_true rfl⟩) hS hFc (fun u H1 k9 p9 d9 => va_join (wr := [(rk, .inl (cI, 16, .inl fk)), (rv, .inl (cL, 16, .inr (.inl fv))), (rw, .inl (cI, 16, .inl fw)), (ro, .inl (cB, 65536, .inl fo))]) hP hD [0, 1] [2, 3, 4, 5] rfl rfl (by decide) (by decide) k9 hFc p9 d9) (fun u H locs hw hP hD hK1 hS => ?_)
    obtain ⟨u_19, rfl⟩ : ∃ z, z = u := ⟨_, rfl⟩
    try dsimp only at hw
    have hP : va_P (dC, dI) vwCl [(rk, .inl (cI, 16, .inl fk)), (rv, .inl (cL, 16, .inr (.inl fv))), (rw, .inl (cI, 16, .inl fw)), (ro, .inl (cB, 65536, .inl fo)), (mo, .inr (8, [.int th, .int fd, .ref rt, .int mn, .ref rk, .ref rv, .ref rw, .ref ro, .int md, .ref rr, .int (nI (P ++ (kxB 21)).length), .ref ra, .long pz, .int kc, .ref rc, .ref rl, .ref rb, .int la, .int ca])), (ra, .inl (cB, 16400, .inl u_19))] H := hP
    have hD : va_D A [(rk, .inl (cI, 16, .inl fk)), (rv, .inl (cL, 16, .inr (.inl fv))), (rw, .inl (cI, 16, .inl fw)), (ro, .inl (cB, 65536, .inl fo)), (mo, .inr (8, [.int th, .int fd, .ref rt, .int mn, .ref rk, .ref rv, .ref rw, .ref ro, .int md, .ref rr, .int (nI (P ++ (kxB 21)).length), .ref ra, .long pz, .int kc, .ref rc, .ref rl, .ref rb, .int la, .int ca])), (ra, .inl (cB, 16400, .inl u_19))] := hD
    have hL_21 := hw
    refine lv_goto (tgt := 121) hx hb d_Mo_plain_67 (by decide) ?_
    have hP9 := hP.sub (ws' := [(mo, .inr (8, [.int th, .int fd, .ref rt, .int mn, .ref rk, .ref rv, .ref rw, .ref ro, .int md, .ref rr, .int (nI (P ++ (kxB 21)).length), .ref ra, .long pz, .int kc, .ref rc, .ref rl, .ref rb, .int la, .int ca])), (ra, .inl (cB, 16400, .inl u_19)), (rk, .inl (cI, 16, .inl fk)), (rv, .inl (cL, 16, .inr (.inl fv))), (rw, .inl (cI, 16, .inl fw)), (ro, .inl (cB, 65536, .inl fo))]) [4, 5, 0, 1, 2, 3] rfl
    have hD9 := hD.sub (ws' := [(mo, .inr (8, [.int th, .int fd, .ref rt, .int mn, .ref rk, .ref rv, .ref rw, .ref ro, .int md, .ref rr, .int (nI (P ++ (kxB 21)).length), .ref ra, .long pz, .int kc, .ref rc, .ref rl, .ref rb, .int la, .int ca])), (ra, .inl (cB, 16400, .inl u_19)), (rk, .inl (cI, 16, .inl fk)), (rv, .inl (cL, 16, .inr (.inl fv))), (rw, .inl (cI, 16, .inl fw)), (ro, .inl (cB, 65536, .inl fo))]) [4, 5, 0, 1, 2, 3] (by decide) rfl
    have hK9 := hK.sub (tys' := [(cB, .byte), (cI, .int), (cL, .long)]) [0, 1, 2] rfl
    rw [show (P ++ (kxB 21)) = (P ++ (mo_p k x B)) from (mo_pw (by omega) (by omega) (by rw [hk2, hxx]; decide +kernel))] at hP9 hD9
    exact zz_vret hx hb hr hlocks d_Mo_plain_121 hS (by first | exact Nat.le_refl _ | decide | omega | (dsimp only; omega)) (by first | exact Nat.le_refl _ | decide | omega | (dsimp only; omega)) u_19 (by rw [show (P ++ (kxB 21)) = (P ++ (mo_p k x B)) from (mo_pw (by omega) (by omega) (by rw [hk2, hxx]; decide +kernel))] at hL_21; exact hL_21) hP9 hK9 hD9
  · skip
    rcases Nat.eq_zero_or_pos i1 with hi0 | hi0
    · skip
      have hk9 : fk j = 4 := by rw [hmg.1, hk4, hxx, hi0]; exact mo_t0
      refine lv_aload_n hx hb d_Mo_plain_0 rfl (lv_at hl 0 rfl) ?_
      refine va_get (D := (dC, dI)) (ci := 8) (v := .ref rk) (C := "TextForgeModel") (T := TX8) (N := 19) hx hb hg iwX8 hown hK hP 0 rfl rfl 4 (by decide) (hg _ kw_730) (fun _ h9 => h9) rfl d_Mo_plain_1 ?_
      refine lv_iload_n hx hb d_Mo_plain_4 rfl (lv_at hl 1 rfl) ?_
      refine va_iald hx hb hK hP 2 1 rfl rfl (vp_in_nI hj (by decide)) d_Mo_plain_5 ?_
      rw [nI_clamp (show j < 2 ^ 31 by omega), hk9]
      refine lv_iconst (v := 1) hx hb d_Mo_plain_6 (by decide) ?_
      refine lv_icmp_gt (tgt := 35) hx hb d_Mo_plain_7 (by decide) (fun _ => ?_) (fun c9 => by first | exact absurd c9 (by decide) | exact absurd (by decide) c9)
      refine lv_aload_n hx hb d_Mo_plain_35 rfl (lv_at hl 0 rfl) ?_
      refine va_get (D := (dC, dI)) (ci := 8) (v := .ref rk) (C := "TextForgeModel") (T := TX8) (N := 19) hx hb hg iwX8 hown hK hP 0 rfl rfl 4 (by decide) (hg _ kw_730) (fun _ h9 => h9) rfl d_Mo_plain_36 ?_
      refine lv_iload_n hx hb d_Mo_plain_39 rfl (lv_at hl 1 rfl) ?_
      refine va_iald hx hb hK hP 2 1 rfl rfl (vp_in_nI hj (by decide)) d_Mo_plain_40 ?_
      rw [nI_clamp (show j < 2 ^ 31 by omega), hk9]
      refine lv_iconst (v := 2) hx hb d_Mo_plain_41 (by decide) ?_
      refine lv_icmp_ne (tgt := 70) hx hb d_Mo_plain_42 (by decide) (fun _ => ?_) (fun c9 => by first | exact absurd c9 (by decide) | exact absurd (by decide) c9)
      refine lv_aload_n hx hb d_Mo_plain_70 rfl (lv_at hl 0 rfl) ?_
      refine va_get (D := (dC, dI)) (ci := 8) (v := .ref rk) (C := "TextForgeModel") (T := TX8) (N := 19) hx hb hg iwX8 hown hK hP 0 rfl rfl 4 (by decide) (hg _ kw_730) (fun _ h9 => h9) rfl d_Mo_plain_71 ?_
      refine lv_iload_n hx hb d_Mo_plain_74 rfl (lv_at hl 1 rfl) ?_
      refine va_iald hx hb hK hP 2 1 rfl rfl (vp_in_nI hj (by decide)) d_Mo_plain_75 ?_
      rw [nI_clamp (show j < 2 ^ 31 by omega), hk9]
      refine lv_iconst (v := 3) hx hb d_Mo_plain_76 (by decide) ?_
      refine lv_icmp_ne (tgt := 88) hx hb d_Mo_plain_77 (by decide) (fun _ => ?_) (fun c9 => by first | exact absurd c9 (by decide) | exact absurd (by decide) c9)
      refine lv_aload_n hx hb d_Mo_plain_88 rfl (lv_at hl 0 rfl) ?_
      refine va_get (D := (dC, dI)) (ci := 8) (v := .ref rk) (C := "TextForgeModel") (T := TX8) (N := 19) hx hb hg iwX8 hown hK hP 0 rfl rfl 4 (by decide) (hg _ kw_730) (fun _ h9 => h9) rfl d_Mo_plain_89 ?_
      refine lv_iload_n hx hb d_Mo_plain_92 rfl (lv_at hl 1 rfl) ?_
      refine va_iald hx hb hK hP 2 1 rfl rfl (vp_in_nI hj (by decide)) d_Mo_plain_93 ?_
      rw [nI_clamp (show j < 2 ^ 31 by omega), hk9]
      refine lv_iconst (v := 4) hx hb d_Mo_plain_94 (by decide) ?_
      refine lv_icmp_ne (tgt := 107) hx hb d_Mo_plain_95 (by decide) (fun c9 => by first | exact absurd c9 (by decide) | exact absurd (by decide) c9) (fun _ => ?_)
      refine lv_aload_n hx hb d_Mo_plain_98 rfl (lv_at hl 0 rfl) ?_
      refine va_ldcS (q := ad 23) hx hb hown (show vk_R "TextForgeModel" 169 "nil" (ad 23) s from (hX.2.1 23 (by decide)).1) d_Mo_plain_99 ?_
      have hPc := hP.sub (ws' := [(mo, .inr (8, [.int th, .int fd, .ref rt, .int mn, .ref rk, .ref rv, .ref rw, .ref ro, .int md, .ref rr, .int (nI P.length), .ref ra, .long pz, .int kc, .ref rc, .ref rl, .ref rb, .int la, .int ca])), (ra, .inl (cB, 16400, .inl fa))]) [0, 1] rfl
      have hKc := hK.sub (tys' := [(cB, .byte)]) [0] rfl
      have hDc := hD.sub (ws' := [(mo, .inr (8, [.int th, .int fd, .ref rt, .int mn, .ref rk, .ref rv, .ref rw, .ref ro, .int md, .ref rr, .int (nI P.length), .ref ra, .long pz, .int kc, .ref rc, .ref rl, .ref rb, .int la, .int ca])), (ra, .inl (cB, 16400, .inl fa))]) [0, 1] (by decide) rfl
      have hFc := va_free (wc := [(mo, .inr (8, [.int th, .int fd, .ref rt, .int mn, .ref rk, .ref rv, .ref rw, .ref ro, .int md, .ref rr, .int (nI P.length), .ref ra, .long pz, .int kc, .ref rc, .ref rl, .ref rb, .int la, .int ca])), (ra, .inl (cB, 16400, .inl fa))]) hD hS hA [0, 1] rfl
      refine zz_callv (va_runV (As := [.ref (ad 23)]) (rest := []) ⟨hx, hb, hml, hown, hg⟩ (c_Mo_putS l dC dI ad mo rt rk rv rw ro rr ra rc rl rb th fd mn md (nI P.length) pz kc la ca cB fa P 23 hLa (by (try simp only [List.length_append, List.length_cons, List.length_nil]); omega) (by decide) s.heap.size) (cwV 1 hg (gi_V kw_914 kw_916 sw_26 kw_9 kw_917) rfl rfl rfl (by decide +kernel) ⟨Nat.le_of_ble_eq_true rfl, Nat.le_of_ble_eq_true rfl⟩) (zy_preV hX hS hFc hPc hKc hDc _ (q0 := 0) (ci := 8) rfl rfl) rfl rfl hl.1 rfl (lv_room (Nat.le_of_ble_eq_true rfl)) d_Mo_plain_101 ⟨Nat.le_of_ble_eq_true rfl, Nat.le_of_ble_eq_true rfl⟩) hS hFc (fun u H1 k9 p9 d9 => va_join (wr := [(rk, .inl (cI, 16, .inl fk)), (rv, .inl (cL, 16, .inr (.inl fv))), (rw, .inl (cI, 16, .inl fw)), (ro, .inl (cB, 65536, .inl fo))]) hP hD [0, 1] [2, 3, 4, 5] rfl rfl (by decide) (by decide) k9 hFc p9 d9) (fun u H locs hw hP hD hK1 hS => ?_)
      obtain ⟨u_22, rfl⟩ : ∃ z, z = u := ⟨_, rfl⟩
      try dsimp only at hw
      have hP : va_P (dC, dI) vwCl [(rk, .inl (cI, 16, .inl fk)), (rv, .inl (cL, 16, .inr (.inl fv))), (rw, .inl (cI, 16, .inl fw)), (ro, .inl (cB, 65536, .inl fo)), (mo, .inr (8, [.int th, .int fd, .ref rt, .int mn, .ref rk, .ref rv, .ref rw, .ref ro, .int md, .ref rr, .int (nI (P ++ (kxB 23)).length), .ref ra, .long pz, .int kc, .ref rc, .ref rl, .ref rb, .int la, .int ca])), (ra, .inl (cB, 16400, .inl u_22))] H := hP
      have hD : va_D A [(rk, .inl (cI, 16, .inl fk)), (rv, .inl (cL, 16, .inr (.inl fv))), (rw, .inl (cI, 16, .inl fw)), (ro, .inl (cB, 65536, .inl fo)), (mo, .inr (8, [.int th, .int fd, .ref rt, .int mn, .ref rk, .ref rv, .ref rw, .ref ro, .int md, .ref rr, .int (nI (P ++ (kxB 23)).length), .ref ra, .long pz, .int kc, .ref rc, .ref rl, .ref rb, .int la, .int ca])), (ra, .inl (cB, 16400, .inl u_22))] := hD
      have hL_24 := hw
      refine lv_goto (tgt := 121) hx hb d_Mo_plain_104 (by decide) ?_
      have hP9 := hP.sub (ws' := [(mo, .inr (8, [.int th, .int fd, .ref rt, .int mn, .ref rk, .ref rv, .ref rw, .ref ro, .int md, .ref rr, .int (nI (P ++ (kxB 23)).length), .ref ra, .long pz, .int kc, .ref rc, .ref rl, .ref rb, .int la, .int ca])), (ra, .inl (cB, 16400, .inl u_22)), (rk, .inl (cI, 16, .inl fk)), (rv, .inl (cL, 16, .inr (.inl fv))), (rw, .inl (cI, 16, .inl fw)), (ro, .inl (cB, 65536, .inl fo))]) [4, 5, 0, 1, 2, 3] rfl
      have hD9 := hD.sub (ws' := [(mo, .inr (8, [.int th, .int fd, .ref rt, .int mn, .ref rk, .ref rv, .ref rw, .ref ro, .int md, .ref rr, .int (nI (P ++ (kxB 23)).length), .ref ra, .long pz, .int kc, .ref rc, .ref rl, .ref rb, .int la, .int ca])), (ra, .inl (cB, 16400, .inl u_22)), (rk, .inl (cI, 16, .inl fk)), (rv, .inl (cL, 16, .inr (.inl fv))), (rw, .inl (cI, 16, .inl fw)), (ro, .inl (cB, 65536, .inl fo))]) [4, 5, 0, 1, 2, 3] (by decide) rfl
      have hK9 := hK.sub (tys' := [(cB, .byte), (cI, .int), (cL, .long)]) [0, 1, 2] rfl
      rw [show (P ++ (kxB 23)) = (P ++ (mo_p k x B)) from (mo_pw (by omega) (by omega) (by rw [hk4, hxx, hi0]; exact mo_tn))] at hP9 hD9
      exact zz_vret hx hb hr hlocks d_Mo_plain_121 hS (by first | exact Nat.le_refl _ | decide | omega | (dsimp only; omega)) (by first | exact Nat.le_refl _ | decide | omega | (dsimp only; omega)) u_22 (by rw [show (P ++ (kxB 23)) = (P ++ (mo_p k x B)) from (mo_pw (by omega) (by omega) (by rw [hk4, hxx, hi0]; exact mo_tn))] at hL_24; exact hL_24) hP9 hK9 hD9
    · skip
      have hi8 : i1 - 1 ≤ 8 := by omega
      have hi2 : i1 = i1 - 1 + 1 := by omega
      have hk9 : fk j = 5 := by rw [hmg.1, hk4, hxx, hi2]; exact mo_tk hi8
      refine lv_aload_n hx hb d_Mo_plain_0 rfl (lv_at hl 0 rfl) ?_
      refine va_get (D := (dC, dI)) (ci := 8) (v := .ref rk) (C := "TextForgeModel") (T := TX8) (N := 19) hx hb hg iwX8 hown hK hP 0 rfl rfl 4 (by decide) (hg _ kw_730) (fun _ h9 => h9) rfl d_Mo_plain_1 ?_
      refine lv_iload_n hx hb d_Mo_plain_4 rfl (lv_at hl 1 rfl) ?_
      refine va_iald hx hb hK hP 2 1 rfl rfl (vp_in_nI hj (by decide)) d_Mo_plain_5 ?_
      rw [nI_clamp (show j < 2 ^ 31 by omega), hk9]
      refine lv_iconst (v := 1) hx hb d_Mo_plain_6 (by decide) ?_
      refine lv_icmp_gt (tgt := 35) hx hb d_Mo_plain_7 (by decide) (fun _ => ?_) (fun c9 => by first | exact absurd c9 (by decide) | exact absurd (by decide) c9)
      refine lv_aload_n hx hb d_Mo_plain_35 rfl (lv_at hl 0 rfl) ?_
      refine va_get (D := (dC, dI)) (ci := 8) (v := .ref rk) (C := "TextForgeModel") (T := TX8) (N := 19) hx hb hg iwX8 hown hK hP 0 rfl rfl 4 (by decide) (hg _ kw_730) (fun _ h9 => h9) rfl d_Mo_plain_36 ?_
      refine lv_iload_n hx hb d_Mo_plain_39 rfl (lv_at hl 1 rfl) ?_
      refine va_iald hx hb hK hP 2 1 rfl rfl (vp_in_nI hj (by decide)) d_Mo_plain_40 ?_
      rw [nI_clamp (show j < 2 ^ 31 by omega), hk9]
      refine lv_iconst (v := 2) hx hb d_Mo_plain_41 (by decide) ?_
      refine lv_icmp_ne (tgt := 70) hx hb d_Mo_plain_42 (by decide) (fun _ => ?_) (fun c9 => by first | exact absurd c9 (by decide) | exact absurd (by decide) c9)
      refine lv_aload_n hx hb d_Mo_plain_70 rfl (lv_at hl 0 rfl) ?_
      refine va_get (D := (dC, dI)) (ci := 8) (v := .ref rk) (C := "TextForgeModel") (T := TX8) (N := 19) hx hb hg iwX8 hown hK hP 0 rfl rfl 4 (by decide) (hg _ kw_730) (fun _ h9 => h9) rfl d_Mo_plain_71 ?_
      refine lv_iload_n hx hb d_Mo_plain_74 rfl (lv_at hl 1 rfl) ?_
      refine va_iald hx hb hK hP 2 1 rfl rfl (vp_in_nI hj (by decide)) d_Mo_plain_75 ?_
      rw [nI_clamp (show j < 2 ^ 31 by omega), hk9]
      refine lv_iconst (v := 3) hx hb d_Mo_plain_76 (by decide) ?_
      refine lv_icmp_ne (tgt := 88) hx hb d_Mo_plain_77 (by decide) (fun _ => ?_) (fun c9 => by first | exact absurd c9 (by decide) | exact absurd (by decide) c9)
      refine lv_aload_n hx hb d_Mo_plain_88 rfl (lv_at hl 0 rfl) ?_
      refine va_get (D := (dC, dI)) (ci := 8) (v := .ref rk) (C := "TextForgeModel") (T := TX8) (N := 19) hx hb hg iwX8 hown hK hP 0 rfl rfl 4 (by decide) (hg _ kw_730) (fun _ h9 => h9) rfl d_Mo_plain_89 ?_
      refine lv_iload_n hx hb d_Mo_plain_92 rfl (lv_at hl 1 rfl) ?_
      refine va_iald hx hb hK hP 2 1 rfl rfl (vp_in_nI hj (by decide)) d_Mo_plain_93 ?_
      rw [nI_clamp (show j < 2 ^ 31 by omega), hk9]
      refine lv_iconst (v := 4) hx hb d_Mo_plain_94 (by decide) ?_
      refine lv_icmp_ne (tgt := 107) hx hb d_Mo_plain_95 (by decide) (fun _ => ?_) (fun c9 => by first | exact absurd c9 (by decide) | exact absurd (by decide) c9)
      refine lv_aload_n hx hb d_Mo_plain_107 rfl (lv_at hl 0 rfl) ?_
      refine lv_aload_n hx hb d_Mo_plain_108 rfl (lv_at hl 0 rfl) ?_
      refine va_get (D := (dC, dI)) (ci := 8) (v := .ref rv) (C := "TextForgeModel") (T := TX8) (N := 19) hx hb hg iwX8 hown hK hP 0 rfl rfl 5 (by decide) (hg _ kw_731) (fun _ h9 => h9) rfl d_Mo_plain_109 ?_
      refine lv_iload_n hx hb d_Mo_plain_112 rfl (lv_at hl 1 rfl) ?_
      refine va_lald hx hb hK hP 3 2 rfl rfl (vp_in_nI hj (by decide)) d_Mo_plain_113 ?_
      refine lv_topl (fun y_25 ey_25 => ?_)
      have ey_25 : y_25 = ((nI (i1 - 1 + 1) - 1).toInt64 : Int64) := ey_25.trans (show (fv (nI j).toNatClampNeg) = (nI (i1 - 1 + 1) - 1).toInt64 from (by rw [nI_clamp (show j < 2 ^ 31 by omega), hmg.2.1, hxx, ← hi2]))
      subst ey_25
      refine lv_l2i hx hb d_Mo_plain_114 rfl ?_
      refine lv_topi (fun y_26 ey_26 => ?_)
      have ey_26 : y_26 = (nI (i1 - 1) : Int32) := ey_26.trans (show (((nI (i1 - 1 + 1) - 1).toInt64).toInt32) = nI (i1 - 1) from (mo_ti hi8))
      subst ey_26
      have hPc := hP.sub (ws' := []) [] rfl
      have hKc := hK.sub (tys' := []) [] rfl
      refine va_csq (W.runS (As := [.int (nI (i1 - 1))]) (rest := [.ref mo]) ⟨hx, hb, hml, hown, hg⟩ (c_Mo_sortOf l dC dI ad (i1 - 1) hi8) (va_cwS 1 hg (gi_S kw_920 kw_921 kw_9 kw_922) rfl rfl rfl (by decide +kernel) ⟨Nat.le_of_ble_eq_true rfl, Nat.le_of_ble_eq_true rfl⟩) (zy_prJS hX hS hPc hKc _) rfl rfl hl.1 rfl (lv_room (Nat.le_of_ble_eq_true rfl)) d_Mo_plain_115 ⟨Nat.le_of_ble_eq_true rfl, Nat.le_of_ble_eq_true rfl⟩) (fun r_27 hr_27 => ?_)
      subst hr_27
      have hPc := hP.sub (ws' := [(mo, .inr (8, [.int th, .int fd, .ref rt, .int mn, .ref rk, .ref rv, .ref rw, .ref ro, .int md, .ref rr, .int (nI P.length), .ref ra, .long pz, .int kc, .ref rc, .ref rl, .ref rb, .int la, .int ca])), (ra, .inl (cB, 16400, .inl fa))]) [0, 1] rfl
      have hKc := hK.sub (tys' := [(cB, .byte)]) [0] rfl
      have hDc := hD.sub (ws' := [(mo, .inr (8, [.int th, .int fd, .ref rt, .int mn, .ref rk, .ref rv, .ref rw, .ref ro, .int md, .ref rr, .int (nI P.length), .ref ra, .long pz, .int kc, .ref rc, .ref rl, .ref rb, .int la, .int ca])), (ra, .inl (cB, 16400, .inl fa))]) [0, 1] (by decide) rfl
      have hFc := va_free (wc := [(mo, .inr (8, [.int th, .int fd, .ref rt, .int mn, .ref rk, .ref rv, .ref rw, .ref ro, .int md, .ref rr, .int (nI P.length), .ref ra, .long pz, .int kc, .ref rc, .ref rl, .ref rb, .int la, .int ca])), (ra, .inl (cB, 16400, .inl fa))]) hD hS hA [0, 1] rfl
      refine zz_callv (va_runV (As := [.ref (ad (24 + (i1 - 1)))]) (rest := []) ⟨hx, hb, hml, hown, hg⟩ (c_Mo_putS l dC dI ad mo rt rk rv rw ro rr ra rc rl rb th fd mn md (nI P.length) pz kc la ca cB fa P (24 + (i1 - 1)) hLa (by (try simp only [List.length_append, List.length_cons, List.length_nil]); omega) (show _ < 33 by omega) s.heap.size) (cwV 1 hg (gi_V kw_914 kw_916 sw_26 kw_9 kw_917) rfl rfl rfl (by decide +kernel) ⟨Nat.le_of_ble_eq_true rfl, Nat.le_of_ble_eq_true rfl⟩) (zy_preV hX hS hFc hPc hKc hDc _ (q0 := 0) (ci := 8) rfl rfl) rfl rfl hl.1 rfl (lv_room (Nat.le_of_ble_eq_true rfl)) d_Mo_plain_118 ⟨Nat.le_of_ble_eq_true rfl, Nat.le_of_ble_eq_true rfl⟩) hS hFc (fun u H1 k9 p9 d9 => va_join (wr := [(rk, .inl (cI, 16, .inl fk)), (rv, .inl (cL, 16, .inr (.inl fv))), (rw, .inl (cI, 16, .inl fw)), (ro, .inl (cB, 65536, .inl fo))]) hP hD [0, 1] [2, 3, 4, 5] rfl rfl (by decide) (by decide) k9 hFc p9 d9) (fun u H locs hw hP hD hK1 hS => ?_)
      obtain ⟨u_28, rfl⟩ : ∃ z, z = u := ⟨_, rfl⟩
      try dsimp only at hw
      have hP : va_P (dC, dI) vwCl [(rk, .inl (cI, 16, .inl fk)), (rv, .inl (cL, 16, .inr (.inl fv))), (rw, .inl (cI, 16, .inl fw)), (ro, .inl (cB, 65536, .inl fo)), (mo, .inr (8, [.int th, .int fd, .ref rt, .int mn, .ref rk, .ref rv, .ref rw, .ref ro, .int md, .ref rr, .int (nI (P ++ (kxB (24 + (i1 - 1)))).length), .ref ra, .long pz, .int kc, .ref rc, .ref rl, .ref rb, .int la, .int ca])), (ra, .inl (cB, 16400, .inl u_28))] H := hP
      have hD : va_D A [(rk, .inl (cI, 16, .inl fk)), (rv, .inl (cL, 16, .inr (.inl fv))), (rw, .inl (cI, 16, .inl fw)), (ro, .inl (cB, 65536, .inl fo)), (mo, .inr (8, [.int th, .int fd, .ref rt, .int mn, .ref rk, .ref rv, .ref rw, .ref ro, .int md, .ref rr, .int (nI (P ++ (kxB (24 + (i1 - 1)))).length), .ref ra, .long pz, .int kc, .ref rc, .ref rl, .ref rb, .int la, .int ca])), (ra, .inl (cB, 16400, .inl u_28))] := hD
      have hL_30 := hw
      have hP9 := hP.sub (ws' := [(mo, .inr (8, [.int th, .int fd, .ref rt, .int mn, .ref rk, .ref rv, .ref rw, .ref ro, .int md, .ref rr, .int (nI (P ++ (kxB (24 + (i1 - 1)))).length), .ref ra, .long pz, .int kc, .ref rc, .ref rl, .ref rb, .int la, .int ca])), (ra, .inl (cB, 16400, .inl u_28)), (rk, .inl (cI, 16, .inl fk)), (rv, .inl (cL, 16, .inr (.inl fv))), (rw, .inl (cI, 16, .inl fw)), (ro, .inl (cB, 65536, .inl fo))]) [4, 5, 0, 1, 2, 3] rfl
      have hD9 := hD.sub (ws' := [(mo, .inr (8, [.int th, .int fd, .ref rt, .int mn, .ref rk, .ref rv, .ref rw, .ref ro, .int md, .ref rr, .int (nI (P ++ (kxB (24 + (i1 - 1)))).length), .ref ra, .long pz, .int kc, .ref rc, .ref rl, .ref rb, .int la, .int ca])), (ra, .inl (cB, 16400, .inl u_28)), (rk, .inl (cI, 16, .inl fk)), (rv, .inl (cL, 16, .inr (.inl fv))), (rw, .inl (cI, 16, .inl fw)), (ro, .inl (cB, 65536, .inl fo))]) [4, 5, 0, 1, 2, 3] (by decide) rfl
      have hK9 := hK.sub (tys' := [(cB, .byte), (cI, .int), (cL, .long)]) [0, 1, 2] rfl
      rw [show (P ++ (kxB (24 + (i1 - 1)))) = (P ++ (mo_p k x B)) from (mo_pw (by omega) (by omega) (by rw [hk4, hxx, hi2]; exact mo_th hi8))] at hP9 hD9
      exact zz_vret hx hb hr hlocks d_Mo_plain_121 hS (by first | exact Nat.le_refl _ | decide | omega | (dsimp only; omega)) (by first | exact Nat.le_refl _ | decide | omega | (dsimp only; omega)) u_28 (by rw [show (P ++ (kxB (24 + (i1 - 1)))) = (P ++ (mo_p k x B)) from (mo_pw (by omega) (by omega) (by rw [hk4, hxx, hi2]; exact mo_th hi8))] at hL_30; exact hL_30) hP9 hK9 hD9
