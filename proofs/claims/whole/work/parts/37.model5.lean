/-! MODEL 5: codes, quoting -/
theorem sb_255 : ∀ v, v < 256 → sb_b v &&& 255 = nI v := by decide +kernel
theorem sb_63 : ∀ v, v < 256 → sb_b v &&& 63 = nI (v % 64) := by decide +kernel
theorem sb_192 : ∀ v, v < 256 → (sb_b v &&& 192 = 128 ↔ (128 ≤ v ∧ v < 192)) := by decide +kernel
theorem lk_m2 : ∀ b, b < 256 → nI b &&& (((1 : Int32) <<< ((7 - nI 2) &&& 31)) - 1) = nI (b % 2 ^ (7 - 2)) := by decide +kernel
theorem lk_m3 : ∀ b, b < 256 → nI b &&& (((1 : Int32) <<< ((7 - nI 3) &&& 31)) - 1) = nI (b % 2 ^ (7 - 3)) := by decide +kernel
theorem lk_m4 : ∀ b, b < 256 → nI b &&& (((1 : Int32) <<< ((7 - nI 4) &&& 31)) - 1) = nI (b % 2 ^ (7 - 4)) := by decide +kernel
theorem lk_j2 : ∀ b, b < 256 → (nI b >>> ((7 - nI 2) &&& 31) = ((1 : Int32) <<< ((nI 2 + 1) &&& 31)) - 2 ↔ b / 2 ^ (7 - 2) = 2 ^ (2 + 1) - 2) := by decide +kernel
theorem lk_j3 : ∀ b, b < 256 → (nI b >>> ((7 - nI 3) &&& 31) = ((1 : Int32) <<< ((nI 3 + 1) &&& 31)) - 2 ↔ b / 2 ^ (7 - 3) = 2 ^ (3 + 1) - 2) := by decide +kernel
theorem lk_j4 : ∀ b, b < 256 → (nI b >>> ((7 - nI 4) &&& 31) = ((1 : Int32) <<< ((nI 4 + 1) &&& 31)) - 2 ↔ b / 2 ^ (7 - 4) = 2 ^ (4 + 1) - 2) := by decide +kernel
theorem lk_k {k : Nat} (h : 1 ≤ k ∧ k ≤ 4) (h1 : k ≠ 1) : k = 2 ∨ k = 3 ∨ k = 4 := by omega
theorem lk_m {b k : Nat} (hb : b < 256) (h : 1 ≤ k ∧ k ≤ 4) (h1 : k ≠ 1) : nI b &&& (((1 : Int32) <<< ((7 - nI k) &&& 31)) - 1) = nI (b % 2 ^ (7 - k)) := by
  rcases lk_k h h1 with rfl | rfl | rfl
  · exact lk_m2 b hb
  · exact lk_m3 b hb
  · exact lk_m4 b hb
theorem lk_j {b k : Nat} (hb : b < 256) (h : 1 ≤ k ∧ k ≤ 4) (h1 : k ≠ 1) : nI b >>> ((7 - nI k) &&& 31) = ((1 : Int32) <<< ((nI k + 1) &&& 31)) - 2 ↔ b / 2 ^ (7 - k) = 2 ^ (k + 1) - 2 := by
  rcases lk_k h h1 with rfl | rfl | rfl
  · exact lk_j2 b hb
  · exact lk_j3 b hb
  · exact lk_j4 b hb
/-- the code of k bytes at p, as far as its byte i -/
def lk_c (L : List Nat) (p k : Nat) : Nat → Nat
  | 0 => if k = 1 then L.getD p 0 else L.getD p 0 % 2 ^ (7 - k)
  | i + 1 => lk_c L p k i * 64 + L.getD (p + (i + 1)) 0 % 64
def lk_i (L : List Nat) (p k : Nat) : Nat → Bool
  | 0 => if k = 1 then decide (L.getD p 0 < 128) else decide (L.getD p 0 / 2 ^ (7 - k) = 2 ^ (k + 1) - 2)
  | i + 1 => lk_i L p k i && decide (128 ≤ L.getD (p + (i + 1)) 0 ∧ L.getD (p + (i + 1)) 0 < 192)
theorem lk_cb {L : List Nat} {p k : Nat} (h : L.getD p 0 < 256) : ∀ i, lk_c L p k i < 256 * 64 ^ i
  | 0 => by
    rw [lk_c]; split
    · omega
    · have := Nat.mod_le (L.getD p 0) (2 ^ (7 - k)); omega
  | i + 1 => by rw [lk_c, Nat.pow_succ]; have := lk_cb (k := k) h i; omega
theorem lk_b3 {L : List Nat} {p k i : Nat} (h : L.getD p 0 < 256) (hi : i ≤ 3) : lk_c L p k i < 67108864 := by
  have := lk_cb (k := k) h i
  have := Nat.pow_le_pow_right (n := 64) (by decide) hi
  omega
theorem lk_b2 {L : List Nat} {p k i : Nat} (h : L.getD p 0 < 256) (hi : i ≤ 2) : lk_c L p k i < 1048576 := by
  have := lk_cb (k := k) h i
  have := Nat.pow_le_pow_right (n := 64) (by decide) hi
  omega
theorem lk_sh {a m : Nat} (ha : a < 1048576) (hm : m < 64) : (nI a <<< ((6 : Int32) &&& 31)) ||| nI m = nI (a * 64 + m) := by
  have h := ut_sh (x := m) ha hm
  rwa [show nI (m + 128) &&& 63 = nI m by rw [pk_andN (by omega) 6 (by decide)]; congr 1; omega] at h
theorem ut_inv {L : List Nat} {p c : Nat} (h : ut_at L p = some c) : p < L.length ∧ ((L.getD p 0 < 128 ∧ c = L.getD p 0) ∨ ((192 ≤ L.getD p 0 ∧ L.getD p 0 < 224) ∧ ∃ x, ut_co L (p + 1) = some x ∧ c = (L.getD p 0 - 192) * 64 + x ∧ ut_ok c = true ∧ ut_bn c = 2) ∨ ((224 ≤ L.getD p 0 ∧ L.getD p 0 < 240) ∧ ∃ x y, ut_co L (p + 1) = some x ∧ ut_co L (p + 2) = some y ∧ c = ((L.getD p 0 - 224) * 64 + x) * 64 + y ∧ ut_ok c = true ∧ ut_bn c = 3) ∨ ((240 ≤ L.getD p 0 ∧ L.getD p 0 < 248) ∧ ∃ x y z, ut_co L (p + 1) = some x ∧ ut_co L (p + 2) = some y ∧ ut_co L (p + 3) = some z ∧ c = (((L.getD p 0 - 240) * 64 + x) * 64 + y) * 64 + z ∧ ut_ok c = true ∧ ut_bn c = 4)) := by
  by_cases hp : p < L.length
  · refine ⟨hp, ?_⟩
    rcases (show L.getD p 0 < 128 ∨ ((128 ≤ L.getD p 0 ∧ L.getD p 0 < 192) ∨ 248 ≤ L.getD p 0) ∨ (192 ≤ L.getD p 0 ∧ L.getD p 0 < 224) ∨ (224 ≤ L.getD p 0 ∧ L.getD p 0 < 240) ∨ (240 ≤ L.getD p 0 ∧ L.getD p 0 < 248) by omega) with hb | hb | hb | hb | hb
    · rw [ut_at1 hp rfl hb] at h; injection h with h; exact Or.inl ⟨hb, h.symm⟩
    · rw [ut_atx hp rfl hb] at h; exact absurd h (by simp)
    · rw [ut_at2 hp rfl hb] at h
      obtain ⟨x, hx, h⟩ := ut_bdE h
      obtain ⟨e, h1, h2⟩ := ut_fiE h
      exact Or.inr (Or.inl ⟨hb, x, hx, e, by rw [e]; exact h1, by rw [e]; exact h2⟩)
    · rw [ut_at3 hp rfl hb] at h
      obtain ⟨x, hx, h⟩ := ut_bdE h
      obtain ⟨y, hy, h⟩ := ut_bdE h
      obtain ⟨e, h1, h2⟩ := ut_fiE h
      exact Or.inr (Or.inr (Or.inl ⟨hb, x, y, hx, hy, e, by rw [e]; exact h1, by rw [e]; exact h2⟩))
    · rw [ut_at4 hp rfl hb] at h
      obtain ⟨x, hx, h⟩ := ut_bdE h
      obtain ⟨y, hy, h⟩ := ut_bdE h
      obtain ⟨z, hz, h⟩ := ut_bdE h
      obtain ⟨e, h1, h2⟩ := ut_fiE h
      exact Or.inr (Or.inr (Or.inr ⟨hb, x, y, z, hx, hy, hz, e, by rw [e]; exact h1, by rw [e]; exact h2⟩))
  · unfold ut_at at h; rw [if_pos hp] at h; exact absurd h (by simp)
theorem ut_b1 {c : Nat} (h : c < 128) : ut_bn c = 1 := if_pos h
theorem ut_b2 {c : Nat} (h : 128 ≤ c) (h2 : c < 2048) : ut_bn c = 2 := by unfold ut_bn; rw [if_neg (by omega), if_pos h2]
theorem ut_b3 {c : Nat} (h : 2048 ≤ c) (h2 : c < 65536) : ut_bn c = 3 := by unfold ut_bn; rw [if_neg (by omega), if_neg (by omega), if_pos h2]
theorem ut_b4 {c : Nat} (h : 65536 ≤ c) : ut_bn c = 4 := by unfold ut_bn; rw [if_neg (by omega), if_neg (by omega), if_neg (by omega)]
theorem ut_ge {c : Nat} : (ut_bn c = 1 → c < 128) ∧ (ut_bn c = 2 → 128 ≤ c ∧ c < 2048) ∧ (ut_bn c = 3 → 2048 ≤ c ∧ c < 65536) ∧ (ut_bn c = 4 → 65536 ≤ c) := by
  rcases ut_sp c with h | h | h | h
  · rw [ut_b1 h]; omega
  · rw [ut_b2 h.1 h.2]; omega
  · rw [ut_b3 h.1 h.2]; omega
  · rw [ut_b4 h]; omega
def lk_l (k : Nat) : Nat := if k = 1 then 0 else if k = 2 then 128 else if k = 3 then 2048 else 65536
theorem ut_coI {L : List Nat} {p : Nat} (h : p < L.length) (h1 : 128 ≤ L.getD p 0 ∧ L.getD p 0 < 192) : ut_co L p = some (L.getD p 0 % 64) := by
  unfold ut_co; rw [if_pos ⟨h, h1.1, h1.2⟩]; exact congrArg some (by omega)
theorem lk_yes {L : List Nat} {p k : Nat} (hk : 1 ≤ k ∧ k ≤ 4) (hp : p + k ≤ L.length) (hb : L.getD p 0 < 256) (h1 : lk_i L p k (k - 1) = true) (h2 : lk_l k ≤ lk_c L p k (k - 1)) (h3 : ut_ok (lk_c L p k (k - 1)) = true) :
    ut_at L p = some (lk_c L p k (k - 1)) ∧ ut_bn (lk_c L p k (k - 1)) = k := by
  rcases (show k = 1 ∨ k = 2 ∨ k = 3 ∨ k = 4 by omega) with rfl | rfl | rfl | rfl
  · have e : L.getD p 0 < 128 := of_decide_eq_true h1
    exact ⟨ut_at1 (by omega) rfl e, ut_b1 e⟩
  · obtain ⟨a1, a2⟩ := Bool.and_eq_true_iff.mp h1
    have a1 : L.getD p 0 / 32 = 6 := of_decide_eq_true a1
    have a2 : 128 ≤ L.getD (p + 1) 0 ∧ L.getD (p + 1) 0 < 192 := of_decide_eq_true a2
    have e : lk_c L p 2 (2 - 1) = (L.getD p 0 - 192) * 64 + L.getD (p + 1) 0 % 64 := by show L.getD p 0 % 32 * 64 + L.getD (p + 1) 0 % 64 = _; omega
    have h2 : 128 ≤ lk_c L p 2 (2 - 1) := h2
    have bn := ut_b2 h2 (by omega)
    refine ⟨?_, bn⟩
    rw [ut_at2 (by omega) rfl (by omega), ut_coI (by omega) a2, ut_bd_s, ← e]; exact if_pos ⟨h3, bn⟩
  · obtain ⟨a1, a3⟩ := Bool.and_eq_true_iff.mp h1
    obtain ⟨a1, a2⟩ := Bool.and_eq_true_iff.mp a1
    have a1 : L.getD p 0 / 16 = 14 := of_decide_eq_true a1
    have a2 : 128 ≤ L.getD (p + 1) 0 ∧ L.getD (p + 1) 0 < 192 := of_decide_eq_true a2
    have a3 : 128 ≤ L.getD (p + 2) 0 ∧ L.getD (p + 2) 0 < 192 := of_decide_eq_true a3
    have e : lk_c L p 3 (3 - 1) = ((L.getD p 0 - 224) * 64 + L.getD (p + 1) 0 % 64) * 64 + L.getD (p + 2) 0 % 64 := by show (L.getD p 0 % 16 * 64 + L.getD (p + 1) 0 % 64) * 64 + L.getD (p + 2) 0 % 64 = _; omega
    have h2 : 2048 ≤ lk_c L p 3 (3 - 1) := h2
    have bn := ut_b3 h2 (by omega)
    refine ⟨?_, bn⟩
    rw [ut_at3 (by omega) rfl (by omega), ut_coI (by omega) a2, ut_bd_s, ut_coI (by omega) a3, ut_bd_s, ← e]; exact if_pos ⟨h3, bn⟩
  · obtain ⟨a1, a4⟩ := Bool.and_eq_true_iff.mp h1
    obtain ⟨a1, a3⟩ := Bool.and_eq_true_iff.mp a1
    obtain ⟨a1, a2⟩ := Bool.and_eq_true_iff.mp a1
    have a1 : L.getD p 0 / 8 = 30 := of_decide_eq_true a1
    have a2 : 128 ≤ L.getD (p + 1) 0 ∧ L.getD (p + 1) 0 < 192 := of_decide_eq_true a2
    have a3 : 128 ≤ L.getD (p + 2) 0 ∧ L.getD (p + 2) 0 < 192 := of_decide_eq_true a3
    have a4 : 128 ≤ L.getD (p + 3) 0 ∧ L.getD (p + 3) 0 < 192 := of_decide_eq_true a4
    have e : lk_c L p 4 (4 - 1) = (((L.getD p 0 - 240) * 64 + L.getD (p + 1) 0 % 64) * 64 + L.getD (p + 2) 0 % 64) * 64 + L.getD (p + 3) 0 % 64 := by show ((L.getD p 0 % 8 * 64 + L.getD (p + 1) 0 % 64) * 64 + L.getD (p + 2) 0 % 64) * 64 + L.getD (p + 3) 0 % 64 = _; omega
    have h2 : 65536 ≤ lk_c L p 4 (4 - 1) := h2
    have bn := ut_b4 h2
    refine ⟨?_, bn⟩
    rw [ut_at4 (by omega) rfl (by omega), ut_coI (by omega) a2, ut_bd_s, ut_coI (by omega) a3, ut_bd_s, ut_coI (by omega) a4, ut_bd_s, ← e]; exact if_pos ⟨h3, bn⟩
theorem lk_inv {L : List Nat} {p k c : Nat} (h : ut_at L p = some c) (hk : ut_bn c = k) : lk_i L p k (k - 1) = true ∧ lk_l k ≤ lk_c L p k (k - 1) ∧ ut_ok (lk_c L p k (k - 1)) = true := by
  have hok := (qt_in h).2.2
  obtain ⟨hp, ⟨hb, e⟩ | ⟨hb, x, hx, e, h1, h2⟩ | ⟨hb, x, y, hx, hy, e, h1, h2⟩ | ⟨hb, x, y, z, hx, hy, hz, e, h1, h2⟩⟩ := ut_inv h
  · have : k = 1 := by rw [← hk]; exact ut_b1 (by omega)
    rw [this]
    exact ⟨decide_eq_true hb, Nat.zero_le _, by rw [show lk_c L p 1 (1 - 1) = c from e.symm]; exact hok⟩
  · have : k = 2 := by rw [← hk]; exact h2
    rw [this]
    obtain ⟨_, a1, a2, a3⟩ := ut_coE hx
    have e2 : lk_c L p 2 (2 - 1) = c := by show L.getD p 0 % 32 * 64 + L.getD (p + 1) 0 % 64 = c; omega
    refine ⟨Bool.and_eq_true_iff.mpr ⟨decide_eq_true (show L.getD p 0 / 32 = 6 by omega), decide_eq_true ⟨a1, a2⟩⟩, ?_, by rw [e2]; exact hok⟩
    rw [e2]; exact (ut_ge.2.1 h2).1
  · have : k = 3 := by rw [← hk]; exact h2
    rw [this]
    obtain ⟨_, a1, a2, a3⟩ := ut_coE hx
    obtain ⟨_, b1, b2, b3⟩ := ut_coE hy
    have e2 : lk_c L p 3 (3 - 1) = c := by show (L.getD p 0 % 16 * 64 + L.getD (p + 1) 0 % 64) * 64 + L.getD (p + 2) 0 % 64 = c; omega
    refine ⟨Bool.and_eq_true_iff.mpr ⟨Bool.and_eq_true_iff.mpr ⟨decide_eq_true (show L.getD p 0 / 16 = 14 by omega), decide_eq_true ⟨a1, a2⟩⟩, decide_eq_true ⟨b1, b2⟩⟩, ?_, by rw [e2]; exact hok⟩
    rw [e2]; exact (ut_ge.2.2.1 h2).1
  · have : k = 4 := by rw [← hk]; exact h2
    rw [this]
    obtain ⟨_, a1, a2, a3⟩ := ut_coE hx
    obtain ⟨_, b1, b2, b3⟩ := ut_coE hy
    obtain ⟨_, c1, c2, c3⟩ := ut_coE hz
    have e2 : lk_c L p 4 (4 - 1) = c := by show ((L.getD p 0 % 8 * 64 + L.getD (p + 1) 0 % 64) * 64 + L.getD (p + 2) 0 % 64) * 64 + L.getD (p + 3) 0 % 64 = c; omega
    refine ⟨Bool.and_eq_true_iff.mpr ⟨Bool.and_eq_true_iff.mpr ⟨Bool.and_eq_true_iff.mpr ⟨decide_eq_true (show L.getD p 0 / 8 = 30 by omega), decide_eq_true ⟨a1, a2⟩⟩, decide_eq_true ⟨b1, b2⟩⟩, decide_eq_true ⟨c1, c2⟩⟩, ?_, by rw [e2]; exact hok⟩
    rw [e2]; exact ut_ge.2.2.2 h2
/-- what look has found behind the lengths below k -/
def lk_A (o : Option Nat) (k : Nat) : Nat := match o with
  | none => 0
  | some c => if ut_bn c < k then ut_bn c else 0
def lk_B (o : Option Nat) (k : Nat) : Nat := match o with
  | none => 65533
  | some c => if ut_bn c < k then c else 65533
def lk_n (o : Option Nat) : Nat := match o with
  | none => 0
  | some c => ut_bn c
theorem ut_bn1 (c : Nat) : 1 ≤ ut_bn c ∧ ut_bn c ≤ 4 := by
  rcases ut_sp c with h | h | h | h
  · rw [ut_b1 h]; omega
  · rw [ut_b2 h.1 h.2]; omega
  · rw [ut_b3 h.1 h.2]; omega
  · rw [ut_b4 h]; omega
theorem lk_A0 (o : Option Nat) : 0 = lk_A o 1 := by
  cases o with
  | none => rfl
  | some c => exact (if_neg (by have := ut_bn1 c; omega)).symm
theorem lk_B0 (o : Option Nat) : 65533 = lk_B o 1 := by
  cases o with
  | none => rfl
  | some c => exact (if_neg (by have := ut_bn1 c; omega)).symm
theorem lk_no {o : Option Nat} {k : Nat} (h : ∀ c, o = some c → ut_bn c ≠ k) : lk_A o k = lk_A o (k + 1) ∧ lk_B o k = lk_B o (k + 1) := by
  cases o with
  | none => exact ⟨rfl, rfl⟩
  | some c =>
    have := h c rfl
    unfold lk_A lk_B
    show (if _ then _ else _) = (if _ then _ else _) ∧ (if _ then _ else _) = (if _ then _ else _)
    by_cases z : ut_bn c < k
    · rw [if_pos z, if_pos (by omega), if_pos z, if_pos (by omega)]; exact ⟨rfl, rfl⟩
    · rw [if_neg z, if_neg (by omega), if_neg z, if_neg (by omega)]; exact ⟨rfl, rfl⟩
theorem lk_so {o : Option Nat} {k c : Nat} (h : o = some c ∧ ut_bn c = k) : k = lk_A o (k + 1) ∧ c = lk_B o (k + 1) := by
  rw [h.1]; unfold lk_A lk_B
  show k = (if _ then _ else _) ∧ c = (if _ then _ else _)
  rw [if_pos (by omega), if_pos (by omega)]; exact ⟨h.2.symm, rfl⟩
theorem lk_end {o : Option Nat} {k : Nat} (h : ∀ c, o = some c → ut_bn c < k) : lk_A o k = lk_n o ∧ lk_B o k = cd_v o := by
  cases o with
  | none => exact ⟨rfl, rfl⟩
  | some c =>
    have := h c rfl
    unfold lk_A lk_B
    show (if _ then _ else _) = ut_bn c ∧ (if _ then _ else _) = c
    rw [if_pos this, if_pos this]; exact ⟨rfl, rfl⟩
/-- one place of a text, as the reference writes it -/
theorem qr_n {L : List Nat} {p : Nat} (hp : p < L.length) (hb : L.getD p 0 < 256) (h : ut_at L p = none) : qu_p L p = [92, 120, nu_d 97 (L.getD p 0 / 16), nu_d 97 (L.getD p 0 % 16)] := by
  have h1 : ¬ L.getD p 0 < 128 := fun z => by rw [ut_at1 hp rfl z] at h; exact absurd h (by simp)
  rw [qt_p1 (by rw [h]; exact Nat.le_refl _)]
  unfold qu_b; rw [if_neg (by omega), if_neg (by omega), if_neg (by omega)]
theorem qr_8 {L : List Nat} {p c : Nat} (h : ut_at L p = some c) (hc : 128 ≤ c) : by_sg L p (ut_bn c) = ut_8 c := by
  have hb0 : ∀ a n, a + n < L.length → by_sg L a (n + 1) = by_sg L a n ++ [L.getD (a + n) 0] := fun a n h => by_sg_s h
  have hin := (qt_in h).1
  obtain ⟨hp, ⟨hb, e⟩ | ⟨hb, x, hx, e, h1, h2⟩ | ⟨hb, x, y, hx, hy, e, h1, h2⟩ | ⟨hb, x, y, z, hx, hy, hz, e, h1, h2⟩⟩ := ut_inv h
  · omega
  · obtain ⟨_, a1, a2, a3⟩ := ut_coE hx
    have := ut_ge.2.1 h2
    rw [h2, hb0 p 1 (by omega), hb0 p 0 (by omega), by_sg_0]
    unfold ut_8; rw [if_neg (by omega), if_pos (by omega), Nat.add_zero]
    show [L.getD p 0, L.getD (p + 1) 0] = _
    rw [show L.getD p 0 = 192 + c / 64 by omega, show L.getD (p + 1) 0 = 128 + c % 64 by omega]
  · obtain ⟨_, a1, a2, a3⟩ := ut_coE hx
    obtain ⟨_, b1, b2, b3⟩ := ut_coE hy
    have := ut_ge.2.2.1 h2
    rw [h2, hb0 p 2 (by omega), hb0 p 1 (by omega), hb0 p 0 (by omega), by_sg_0]
    unfold ut_8; rw [if_neg (by omega), if_neg (by omega), if_pos (by omega), Nat.add_zero]
    show [L.getD p 0, L.getD (p + 1) 0, L.getD (p + 2) 0] = _
    rw [show L.getD p 0 = 224 + c / 4096 by omega, show L.getD (p + 1) 0 = 128 + c / 64 % 64 by omega, show L.getD (p + 2) 0 = 128 + c % 64 by omega]
  · obtain ⟨_, a1, a2, a3⟩ := ut_coE hx
    obtain ⟨_, b1, b2, b3⟩ := ut_coE hy
    obtain ⟨_, c1, c2, c3⟩ := ut_coE hz
    have := ut_ge.2.2.2 h2
    rw [h2, hb0 p 3 (by omega), hb0 p 2 (by omega), hb0 p 1 (by omega), hb0 p 0 (by omega), by_sg_0]
    unfold ut_8; rw [if_neg (by omega), if_neg (by omega), if_neg (by omega), Nat.add_zero]
    show [L.getD p 0, L.getD (p + 1) 0, L.getD (p + 2) 0, L.getD (p + 3) 0] = _
    rw [show L.getD p 0 = 240 + c / 262144 by omega, show L.getD (p + 1) 0 = 128 + c / 4096 % 64 by omega, show L.getD (p + 2) 0 = 128 + c / 64 % 64 by omega, show L.getD (p + 3) 0 = 128 + c % 64 by omega]
theorem qr_s {L : List Nat} {p c : Nat} (h : ut_at L p = some c) : qu_p L p = mq 34 c := by
  unfold mq
  by_cases z : c < 128
  · rw [if_pos z, qt_p1 (by rw [h]; show ut_bn c ≤ 1; rw [ut_b1 z]; exact Nat.le_refl _)]
    obtain ⟨hp, ⟨hb, e⟩ | ⟨hb, x, hx, e, h1, h2⟩ | ⟨hb, x, y, hx, hy, e, h1, h2⟩ | ⟨hb, x, y, w, hx, hy, hz, e, h1, h2⟩⟩ := ut_inv h
    · rw [e]
    · have := ut_ge.2.1 h2; omega
    · have := ut_ge.2.2.1 h2; omega
    · have := ut_ge.2.2.2 h2; omega
  · rw [if_neg z, ← qr_8 h (by omega)]
    have : 1 < ut_bo (ut_at L p) := by
      rw [h]; show 1 < ut_bn c
      rcases ut_sp c with q | q | q | q
      · omega
      · rw [ut_b2 q.1 q.2]; omega
      · rw [ut_b3 q.1 q.2]; omega
      · rw [ut_b4 q]; omega
    rw [qt_p2 this, h]; rfl
theorem qr_bo {o : Option Nat} : (lk_n o = 0 → o = none) ∧ (lk_n o ≠ 0 → lk_n o = ut_bo o) := by
  cases o with
  | none => exact ⟨fun _ => rfl, fun z => absurd rfl z⟩
  | some c => exact ⟨fun z => by have := ut_bn1 c; have z : ut_bn c = 0 := z; omega, fun _ => rfl⟩
theorem qr_so {o : Option Nat} (h : lk_n o ≠ 0) : ∃ c, o = some c := by
  cases o with
  | none => exact absurd rfl h
  | some c => exact ⟨c, rfl⟩
theorem gp_s {M P : List Nat} {i : Nat} (h : i < P.length) (hb : P.getD i 0 < 256) : by_ap 4096 (by_ap 4096 M (P.take i)) [by_b (sb_b (P.getD i 0))] = by_ap 4096 M (P.take (i + 1)) := by
  rw [by_ap_ap, by_b_sb hb, List.take_add_one, List.getD_eq_getElem?_getD, List.getElem?_eq_getElem h]; rfl
theorem gp_e {M P : List Nat} {i : Nat} (h : i = P.length) : by_ap 4096 M (P.take i) = by_ap 4096 M P := by rw [h, List.take_length]
theorem gp_0 {M P : List Nat} (h : M.length ≤ 4096) : M = by_ap 4096 M (P.take 0) := by rw [List.take_zero, by_ap_nil h]
theorem en_t {v : Int32} (h : ut_ok v.toInt64.toInt = true) : v = nI (ut_cn v.toInt) := by
  have e : v.toInt64.toInt = v.toInt := Int32.toInt_toInt64 v
  rw [e] at h
  have h2 := ut_ct (x := v.toInt64) (by rw [e]; exact h)
  rw [e] at h2
  rw [← h2]; exact (Int32.toInt32_toInt64 v).symm
theorem en_f {v : Int32} (h : ut_ok v.toInt64.toInt = false) : 65533 = nI (ut_cn v.toInt) := ut_cf (by rw [← h, Int32.toInt_toInt64])
theorem qr_l {L : List Nat} {p : Nat} (hp : p < L.length) (hb : L.getD p 0 < 256) : (qu_p L p).length ≤ 4 := by
  cases h : ut_at L p with
  | none => rw [qr_n hp hb h]; exact Nat.le_refl _
  | some c => rw [qr_s h]; exact mq_len _ _
theorem qr_e {P E L : List Nat} {p : Nat} (h : qt_I L E p) (hp : p = L.length) : (P ++ (34 :: E)) ++ [by_b 34] = P ++ qu_t L := by
  obtain ⟨k, hk, he⟩ := h
  have h0 : qu_g L k p = [] := by
    cases k with
    | zero => rfl
    | succ k => rw [qu_g, if_neg (by omega)]
  unfold qu_t; rw [he, h0, List.append_nil, List.append_assoc]; rfl
theorem qr_c {L : List Nat} {p : Nat} (h : lk_n (ut_at L p) ≠ 0) : qu_p L p = mq 34 (cd_v (ut_at L p)) ∧ cd_v (ut_at L p) ≤ 1114111 := by
  obtain ⟨c, hc⟩ := qr_so h
  rw [qr_s hc, hc]; exact ⟨rfl, (qt_in hc).2.1⟩
theorem by_g2 {P : List Nat} {a b : Nat} {g : Nat → Int32} (h : by_L (P ++ [a, b]) g) (hl : P.length < 2147483647) : g (nI P.length).toNatClampNeg = sb_b a ∧ g (nI (P.length + 1)).toNatClampNeg = sb_b b := by
  rw [nI_clamp (by omega), nI_clamp (by omega)]
  have h0 := (h P.length (by simp)).2
  have h1 := (h (P.length + 1) (by simp)).2
  rw [List.getD_eq_getElem?_getD, List.getElem?_append_right (Nat.le_refl _), Nat.sub_self] at h0
  rw [List.getD_eq_getElem?_getD, List.getElem?_append_right (by omega), Nat.add_sub_cancel_left] at h1
  exact ⟨h0, h1⟩
theorem by_u1 {P : List Nat} {a a1 b : Nat} {g : Nat → Int32} (h : by_L (P ++ [a, b]) g) (hl : P.length < 2147483647) (ha : a1 < 256) : by_L (P ++ [a1, b]) (upd g (nI P.length).toNatClampNeg (vp_nar .byte (sb_b a1))) := by
  rw [by_nar2, by_b_sb ha, nI_clamp (by omega)]
  intro j hj
  rw [List.length_append] at hj
  have hj : j < P.length + 2 := hj
  have hq := h j (by rw [List.length_append]; exact hj)
  rw [List.getD_eq_getElem?_getD, List.getElem?_append] at hq ⊢
  by_cases e : j = P.length
  · subst e; rw [pk_us, if_neg (by omega), Nat.sub_self]; exact ⟨ha, rfl⟩
  · rw [pk_un e]
    by_cases f : j < P.length
    · rw [if_pos f] at hq ⊢; exact hq
    · rw [if_neg f] at hq ⊢; rw [show j - P.length = 1 by omega] at hq ⊢; exact hq
theorem by_u2 {P : List Nat} {a b b1 : Nat} {g : Nat → Int32} (h : by_L (P ++ [a, b]) g) (hl : P.length < 2147483647) (hb : b1 < 256) : by_L (P ++ [a, b1]) (upd g (nI (P.length + 1)).toNatClampNeg (vp_nar .byte (sb_b b1))) := by
  rw [by_nar2, by_b_sb hb, nI_clamp (by omega)]
  intro j hj
  rw [List.length_append] at hj
  have hj : j < P.length + 2 := hj
  have hq := h j (by rw [List.length_append]; exact hj)
  rw [List.getD_eq_getElem?_getD, List.getElem?_append] at hq ⊢
  by_cases e : j = P.length + 1
  · subst e; rw [pk_us, if_neg (by omega), Nat.add_sub_cancel_left]; exact ⟨hb, rfl⟩
  · rw [pk_un e]
    by_cases f : j < P.length
    · rw [if_pos f] at hq ⊢; exact hq
    · rw [if_neg f] at hq ⊢; rw [show j - P.length = 0 by omega] at hq ⊢; exact hq
theorem by_l2 {P : List Nat} {a b c d : Nat} : nI (P ++ [a, b]).length = nI (P ++ [c, d]).length := by rw [List.length_append, List.length_append]; rfl
theorem qr_1 {P E : List Nat} {X Y : List Nat} (h : X = Y) : (P ++ (34 :: E)) ++ X = P ++ (34 :: (E ++ Y)) := by rw [h, List.append_assoc]; rfl
theorem qr_1n {P E Q : List Nat} {a b : Nat} (h : Q = [92, 120, a, b]) : (((P ++ (34 :: E)) ++ [by_b 92]) ++ [by_b 120]) ++ [a, b] = P ++ (34 :: (E ++ Q)) := by rw [h, List.append_assoc, List.append_assoc, List.append_assoc]; rfl
/-- the bytes that each code takes -/
def cd_B (L : List Nat) (K : List (Nat × Nat)) (f : Nat → Int32) : Prop := ∀ j, j < K.length → f j = nI (ut_bo (ut_at L (K.getD j (0, 0)).2))
theorem cd_B0 (L : List Nat) (f : Nat → Int32) : cd_B L [] f := fun j h => absurd h (Nat.not_lt_zero j)
theorem cd_Bs {L : List Nat} {K : List (Nat × Nat)} {f : Nat → Int32} {v p : Nat} {y : Int32} (h : cd_B L K f) (hl : K.length < 2147483648) (hy : y = nI (ut_bo (ut_at L p))) : cd_B L (K ++ [(v, p)]) (upd f (nI K.length).toNatClampNeg y) := by
  intro j hj
  rw [List.length_append, List.length_singleton] at hj
  rw [nI_clamp hl, List.getD_eq_getElem?_getD, List.getElem?_append]
  by_cases e : j = K.length
  · subst e; rw [pk_us, if_neg (by omega), hy, Nat.sub_self]; rfl
  · rw [pk_un e, if_pos (by omega), ← List.getD_eq_getElem?_getD]; exact h j (by omega)
theorem hxo_1 : ∀ d, d < 16 → (97 ≤ sb_b (nu_d 97 d) ↔ 10 ≤ d) := by decide +kernel
theorem hxo_2 : ∀ d, d < 16 → 10 ≤ d → (sb_b (nu_d 97 d) - 32).toInt8.toInt32 = sb_b (nu_d 65 d) ∧ nu_d 65 d < 256 := by decide +kernel
theorem hxo_3 {d : Nat} (h : ¬ 10 ≤ d) : nu_d 97 d = nu_d 65 d := by unfold nu_d; rw [if_pos (by omega), if_pos (by omega)]
theorem hxo_4 : ∀ d, d < 16 → nu_d 65 d < 256 ∧ nu_d 97 d < 256 := by decide +kernel
theorem lk_n4 (o : Option Nat) : lk_n o ≤ 4 := by
  cases o with
  | none => exact Nat.zero_le _
  | some c => exact (ut_bn1 c).2
theorem ut_8l (c : Nat) : (ut_8 c).length ≤ 4 := by
  unfold ut_8
  split
  · exact Nat.le_of_ble_eq_true rfl
  · split
    · exact Nat.le_of_ble_eq_true rfl
    · split <;> exact Nat.le_of_ble_eq_true rfl
theorem qu_gl {L : List Nat} (hb : ∀ t, t < L.length → L.getD t 0 < 256) : ∀ k p, p ≤ L.length → (qu_g L k p).length ≤ 4 * (L.length - p)
  | 0, p, _ => Nat.zero_le _
  | k + 1, p, hp => by
    rw [qu_g]
    by_cases z : p < L.length
    · rw [if_pos z, List.length_append]
      have h1 := qr_l z (hb p z)
      have h2 := qt_le (f := fun j => sb_b (L.getD j 0)) (fun j hj => ⟨hb j hj, rfl⟩) z
      have h3 := qt_pos (ut_at L p)
      have h4 := qu_gl hb k (p + ut_bo (ut_at L p)) h2
      omega
    · rw [if_neg z]; exact Nat.zero_le _
theorem qu_tl {L : List Nat} (hb : ∀ t, t < L.length → L.getD t 0 < 256) : (qu_t L).length ≤ 4 * L.length + 2 := by
  have := qu_gl hb L.length 0 (Nat.zero_le _)
  unfold qu_t; rw [List.length_cons, List.length_append]; show _ + 1 + 1 ≤ _; omega
theorem upd_same (f : Nat → Int32) (n : Nat) (x : Int32) : upd f n x n = x := if_pos rfl
abbrev y_Mo_look : MethodName := ⟨"TextForgeModel", "look", "([BII)V"⟩
abbrev w_Mo_look : List Cond := Cond.code y_Mo_look prog_12_method_22_code 9 none :: gw
theorem d_Mo_look_0 : decode prog_12_method_22_code 0 = .ok (.aload_n 0, 1) := by decide +kernel
theorem d_Mo_look_1 : decode prog_12_method_22_code 1 = .ok (.iconst 0, 1) := by decide +kernel
theorem d_Mo_look_2 : decode prog_12_method_22_code 2 = .ok (.putfield 107, 3) := by decide +kernel
theorem d_Mo_look_5 : decode prog_12_method_22_code 5 = .ok (.aload_n 0, 1) := by decide +kernel
theorem d_Mo_look_6 : decode prog_12_method_22_code 6 = .ok (.ldc 110, 2) := by decide +kernel
theorem d_Mo_look_8 : decode prog_12_method_22_code 8 = .ok (.putfield 111, 3) := by decide +kernel
theorem d_Mo_look_11 : decode prog_12_method_22_code 11 = .ok (.iconst 1, 1) := by decide +kernel
theorem d_Mo_look_12 : decode prog_12_method_22_code 12 = .ok (.istore 4, 2) := by decide +kernel
theorem d_Mo_look_14 : decode prog_12_method_22_code 14 = .ok (.iload 4, 2) := by decide +kernel
theorem d_Mo_look_16 : decode prog_12_method_22_code 16 = .ok (.iconst 4, 1) := by decide +kernel
theorem d_Mo_look_17 : decode prog_12_method_22_code 17 = .ok (.if_icmp .gt 232, 3) := by decide +kernel
theorem d_Mo_look_20 : decode prog_12_method_22_code 20 = .ok (.iload 4, 2) := by decide +kernel
theorem d_Mo_look_22 : decode prog_12_method_22_code 22 = .ok (.iload_n 3, 1) := by decide +kernel
theorem d_Mo_look_23 : decode prog_12_method_22_code 23 = .ok (.if_icmp .gt 226, 3) := by decide +kernel
theorem d_Mo_look_26 : decode prog_12_method_22_code 26 = .ok (.aload_n 1, 1) := by decide +kernel
theorem d_Mo_look_27 : decode prog_12_method_22_code 27 = .ok (.iload_n 2, 1) := by decide +kernel
theorem d_Mo_look_28 : decode prog_12_method_22_code 28 = .ok (.baload, 1) := by decide +kernel
theorem d_Mo_look_29 : decode prog_12_method_22_code 29 = .ok (.sipush 255, 3) := by decide +kernel
theorem d_Mo_look_32 : decode prog_12_method_22_code 32 = .ok (.iand, 1) := by decide +kernel
theorem d_Mo_look_33 : decode prog_12_method_22_code 33 = .ok (.istore 5, 2) := by decide +kernel
theorem d_Mo_look_35 : decode prog_12_method_22_code 35 = .ok (.iload 4, 2) := by decide +kernel
theorem d_Mo_look_37 : decode prog_12_method_22_code 37 = .ok (.iconst 1, 1) := by decide +kernel
theorem d_Mo_look_38 : decode prog_12_method_22_code 38 = .ok (.if_icmp .ne 8, 3) := by decide +kernel
theorem d_Mo_look_41 : decode prog_12_method_22_code 41 = .ok (.iload 5, 2) := by decide +kernel
theorem d_Mo_look_43 : decode prog_12_method_22_code 43 = .ok (.goto 15, 3) := by decide +kernel
theorem d_Mo_look_46 : decode prog_12_method_22_code 46 = .ok (.iload 5, 2) := by decide +kernel
theorem d_Mo_look_48 : decode prog_12_method_22_code 48 = .ok (.iconst 1, 1) := by decide +kernel
theorem d_Mo_look_49 : decode prog_12_method_22_code 49 = .ok (.bipush 7, 2) := by decide +kernel
theorem d_Mo_look_51 : decode prog_12_method_22_code 51 = .ok (.iload 4, 2) := by decide +kernel
theorem d_Mo_look_53 : decode prog_12_method_22_code 53 = .ok (.isub, 1) := by decide +kernel
theorem d_Mo_look_54 : decode prog_12_method_22_code 54 = .ok (.ishl, 1) := by decide +kernel
theorem d_Mo_look_55 : decode prog_12_method_22_code 55 = .ok (.iconst 1, 1) := by decide +kernel
theorem d_Mo_look_56 : decode prog_12_method_22_code 56 = .ok (.isub, 1) := by decide +kernel
theorem d_Mo_look_57 : decode prog_12_method_22_code 57 = .ok (.iand, 1) := by decide +kernel
theorem d_Mo_look_58 : decode prog_12_method_22_code 58 = .ok (.istore 6, 2) := by decide +kernel
theorem d_Mo_look_60 : decode prog_12_method_22_code 60 = .ok (.iload 4, 2) := by decide +kernel
theorem d_Mo_look_62 : decode prog_12_method_22_code 62 = .ok (.iconst 1, 1) := by decide +kernel
theorem d_Mo_look_63 : decode prog_12_method_22_code 63 = .ok (.if_icmp .ne 19, 3) := by decide +kernel
theorem d_Mo_look_66 : decode prog_12_method_22_code 66 = .ok (.iload 5, 2) := by decide +kernel
theorem d_Mo_look_68 : decode prog_12_method_22_code 68 = .ok (.sipush 128, 3) := by decide +kernel
theorem d_Mo_look_71 : decode prog_12_method_22_code 71 = .ok (.if_icmp .ge 7, 3) := by decide +kernel
theorem d_Mo_look_74 : decode prog_12_method_22_code 74 = .ok (.iconst 1, 1) := by decide +kernel
theorem d_Mo_look_75 : decode prog_12_method_22_code 75 = .ok (.goto 31, 3) := by decide +kernel
theorem d_Mo_look_78 : decode prog_12_method_22_code 78 = .ok (.iconst 0, 1) := by decide +kernel
theorem d_Mo_look_79 : decode prog_12_method_22_code 79 = .ok (.goto 27, 3) := by decide +kernel
theorem d_Mo_look_82 : decode prog_12_method_22_code 82 = .ok (.iload 5, 2) := by decide +kernel
theorem d_Mo_look_84 : decode prog_12_method_22_code 84 = .ok (.bipush 7, 2) := by decide +kernel
theorem d_Mo_look_86 : decode prog_12_method_22_code 86 = .ok (.iload 4, 2) := by decide +kernel
theorem d_Mo_look_88 : decode prog_12_method_22_code 88 = .ok (.isub, 1) := by decide +kernel
theorem d_Mo_look_89 : decode prog_12_method_22_code 89 = .ok (.ishr, 1) := by decide +kernel
theorem d_Mo_look_90 : decode prog_12_method_22_code 90 = .ok (.iconst 1, 1) := by decide +kernel
theorem d_Mo_look_91 : decode prog_12_method_22_code 91 = .ok (.iload 4, 2) := by decide +kernel
theorem d_Mo_look_93 : decode prog_12_method_22_code 93 = .ok (.iconst 1, 1) := by decide +kernel
theorem d_Mo_look_94 : decode prog_12_method_22_code 94 = .ok (.iadd, 1) := by decide +kernel
theorem d_Mo_look_95 : decode prog_12_method_22_code 95 = .ok (.ishl, 1) := by decide +kernel
theorem d_Mo_look_96 : decode prog_12_method_22_code 96 = .ok (.iconst 2, 1) := by decide +kernel
theorem d_Mo_look_97 : decode prog_12_method_22_code 97 = .ok (.isub, 1) := by decide +kernel
theorem d_Mo_look_98 : decode prog_12_method_22_code 98 = .ok (.if_icmp .ne 7, 3) := by decide +kernel
theorem d_Mo_look_101 : decode prog_12_method_22_code 101 = .ok (.iconst 1, 1) := by decide +kernel
theorem d_Mo_look_102 : decode prog_12_method_22_code 102 = .ok (.goto 4, 3) := by decide +kernel
theorem d_Mo_look_105 : decode prog_12_method_22_code 105 = .ok (.iconst 0, 1) := by decide +kernel
theorem d_Mo_look_106 : decode prog_12_method_22_code 106 = .ok (.istore 7, 2) := by decide +kernel
theorem d_Mo_look_108 : decode prog_12_method_22_code 108 = .ok (.iconst 1, 1) := by decide +kernel
theorem d_Mo_look_109 : decode prog_12_method_22_code 109 = .ok (.istore 8, 2) := by decide +kernel
theorem d_Mo_look_111 : decode prog_12_method_22_code 111 = .ok (.iload 8, 2) := by decide +kernel
theorem d_Mo_look_113 : decode prog_12_method_22_code 113 = .ok (.iload 4, 2) := by decide +kernel
theorem d_Mo_look_115 : decode prog_12_method_22_code 115 = .ok (.if_icmp .ge 54, 3) := by decide +kernel
theorem d_Mo_look_118 : decode prog_12_method_22_code 118 = .ok (.iload 7, 2) := by decide +kernel
theorem d_Mo_look_120 : decode prog_12_method_22_code 120 = .ok (.ifCond .eq 23, 3) := by decide +kernel
theorem d_Mo_look_123 : decode prog_12_method_22_code 123 = .ok (.aload_n 1, 1) := by decide +kernel
theorem d_Mo_look_124 : decode prog_12_method_22_code 124 = .ok (.iload_n 2, 1) := by decide +kernel
theorem d_Mo_look_125 : decode prog_12_method_22_code 125 = .ok (.iload 8, 2) := by decide +kernel
theorem d_Mo_look_127 : decode prog_12_method_22_code 127 = .ok (.iadd, 1) := by decide +kernel
theorem d_Mo_look_128 : decode prog_12_method_22_code 128 = .ok (.baload, 1) := by decide +kernel
theorem d_Mo_look_129 : decode prog_12_method_22_code 129 = .ok (.sipush 192, 3) := by decide +kernel
theorem d_Mo_look_132 : decode prog_12_method_22_code 132 = .ok (.iand, 1) := by decide +kernel
theorem d_Mo_look_133 : decode prog_12_method_22_code 133 = .ok (.sipush 128, 3) := by decide +kernel
theorem d_Mo_look_136 : decode prog_12_method_22_code 136 = .ok (.if_icmp .ne 7, 3) := by decide +kernel
theorem d_Mo_look_139 : decode prog_12_method_22_code 139 = .ok (.iconst 1, 1) := by decide +kernel
theorem d_Mo_look_140 : decode prog_12_method_22_code 140 = .ok (.goto 4, 3) := by decide +kernel
theorem d_Mo_look_143 : decode prog_12_method_22_code 143 = .ok (.iconst 0, 1) := by decide +kernel
theorem d_Mo_look_144 : decode prog_12_method_22_code 144 = .ok (.istore 7, 2) := by decide +kernel
theorem d_Mo_look_146 : decode prog_12_method_22_code 146 = .ok (.iload 6, 2) := by decide +kernel
theorem d_Mo_look_148 : decode prog_12_method_22_code 148 = .ok (.bipush 6, 2) := by decide +kernel
theorem d_Mo_look_150 : decode prog_12_method_22_code 150 = .ok (.ishl, 1) := by decide +kernel
theorem d_Mo_look_151 : decode prog_12_method_22_code 151 = .ok (.aload_n 1, 1) := by decide +kernel
theorem d_Mo_look_152 : decode prog_12_method_22_code 152 = .ok (.iload_n 2, 1) := by decide +kernel
theorem d_Mo_look_153 : decode prog_12_method_22_code 153 = .ok (.iload 8, 2) := by decide +kernel
theorem d_Mo_look_155 : decode prog_12_method_22_code 155 = .ok (.iadd, 1) := by decide +kernel
theorem d_Mo_look_156 : decode prog_12_method_22_code 156 = .ok (.baload, 1) := by decide +kernel
theorem d_Mo_look_157 : decode prog_12_method_22_code 157 = .ok (.bipush 63, 2) := by decide +kernel
theorem d_Mo_look_159 : decode prog_12_method_22_code 159 = .ok (.iand, 1) := by decide +kernel
theorem d_Mo_look_160 : decode prog_12_method_22_code 160 = .ok (.ior, 1) := by decide +kernel
theorem d_Mo_look_161 : decode prog_12_method_22_code 161 = .ok (.istore 6, 2) := by decide +kernel
theorem d_Mo_look_163 : decode prog_12_method_22_code 163 = .ok (.iinc 8 1, 3) := by decide +kernel
theorem d_Mo_look_166 : decode prog_12_method_22_code 166 = .ok (.goto (-55), 3) := by decide +kernel
theorem d_Mo_look_169 : decode prog_12_method_22_code 169 = .ok (.iload 4, 2) := by decide +kernel
theorem d_Mo_look_171 : decode prog_12_method_22_code 171 = .ok (.iconst 1, 1) := by decide +kernel
theorem d_Mo_look_172 : decode prog_12_method_22_code 172 = .ok (.if_icmp .ne 7, 3) := by decide +kernel
theorem d_Mo_look_175 : decode prog_12_method_22_code 175 = .ok (.iconst 0, 1) := by decide +kernel
theorem d_Mo_look_176 : decode prog_12_method_22_code 176 = .ok (.goto 29, 3) := by decide +kernel
theorem d_Mo_look_179 : decode prog_12_method_22_code 179 = .ok (.iload 4, 2) := by decide +kernel
theorem d_Mo_look_181 : decode prog_12_method_22_code 181 = .ok (.iconst 2, 1) := by decide +kernel
theorem d_Mo_look_182 : decode prog_12_method_22_code 182 = .ok (.if_icmp .ne 9, 3) := by decide +kernel
theorem d_Mo_look_185 : decode prog_12_method_22_code 185 = .ok (.sipush 128, 3) := by decide +kernel
theorem d_Mo_look_188 : decode prog_12_method_22_code 188 = .ok (.goto 17, 3) := by decide +kernel
theorem d_Mo_look_191 : decode prog_12_method_22_code 191 = .ok (.iload 4, 2) := by decide +kernel
theorem d_Mo_look_193 : decode prog_12_method_22_code 193 = .ok (.iconst 3, 1) := by decide +kernel
theorem d_Mo_look_194 : decode prog_12_method_22_code 194 = .ok (.if_icmp .ne 9, 3) := by decide +kernel
theorem d_Mo_look_197 : decode prog_12_method_22_code 197 = .ok (.sipush 2048, 3) := by decide +kernel
theorem d_Mo_look_200 : decode prog_12_method_22_code 200 = .ok (.goto 5, 3) := by decide +kernel
theorem d_Mo_look_203 : decode prog_12_method_22_code 203 = .ok (.ldc 24, 2) := by decide +kernel
theorem d_Mo_look_205 : decode prog_12_method_22_code 205 = .ok (.istore 8, 2) := by decide +kernel
theorem d_Mo_look_207 : decode prog_12_method_22_code 207 = .ok (.iload 7, 2) := by decide +kernel
theorem d_Mo_look_209 : decode prog_12_method_22_code 209 = .ok (.ifCond .eq 34, 3) := by decide +kernel
theorem d_Mo_look_212 : decode prog_12_method_22_code 212 = .ok (.iload 6, 2) := by decide +kernel
theorem d_Mo_look_214 : decode prog_12_method_22_code 214 = .ok (.iload 8, 2) := by decide +kernel
theorem d_Mo_look_216 : decode prog_12_method_22_code 216 = .ok (.if_icmp .lt 27, 3) := by decide +kernel
theorem d_Mo_look_219 : decode prog_12_method_22_code 219 = .ok (.iload 6, 2) := by decide +kernel
theorem d_Mo_look_221 : decode prog_12_method_22_code 221 = .ok (.i2l, 1) := by decide +kernel
theorem d_Mo_look_222 : decode prog_12_method_22_code 222 = .ok (.invokestatic 114, 3) := by decide +kernel
theorem d_Mo_look_225 : decode prog_12_method_22_code 225 = .ok (.ifCond .ne 6, 3) := by decide +kernel
theorem d_Mo_look_228 : decode prog_12_method_22_code 228 = .ok (.goto 15, 3) := by decide +kernel
theorem d_Mo_look_231 : decode prog_12_method_22_code 231 = .ok (.aload_n 0, 1) := by decide +kernel
theorem d_Mo_look_232 : decode prog_12_method_22_code 232 = .ok (.iload 4, 2) := by decide +kernel
theorem d_Mo_look_234 : decode prog_12_method_22_code 234 = .ok (.putfield 107, 3) := by decide +kernel
theorem d_Mo_look_237 : decode prog_12_method_22_code 237 = .ok (.aload_n 0, 1) := by decide +kernel
theorem d_Mo_look_238 : decode prog_12_method_22_code 238 = .ok (.iload 6, 2) := by decide +kernel
theorem d_Mo_look_240 : decode prog_12_method_22_code 240 = .ok (.putfield 111, 3) := by decide +kernel
theorem d_Mo_look_243 : decode prog_12_method_22_code 243 = .ok (.iinc 4 1, 3) := by decide +kernel
theorem d_Mo_look_246 : decode prog_12_method_22_code 246 = .ok (.goto (-232), 3) := by decide +kernel
theorem d_Mo_look_249 : decode prog_12_method_22_code 249 = .ok (.return_, 1) := by decide +kernel
set_option maxHeartbeats 4000000 in
set_option maxRecDepth 100000 in
theorem c_Mo_look (l : Launch) (dC : Nat → ClassId) (dI : Nat → Nat → Nat) (mo rt rk rv rw ro rr ra rc rl rb : Nat) (th fd mn md pt : Int32) (pz : Int64) (kc la ca : Int32) (q sz : Nat) (cB : ClassId) (gq : Nat → Int32) (L : List Nat) (b0 : Nat) (p0 : Nat) (hLq : ∀ t, t < L.length → L.getD t 0 < 256 ∧ gq (b0 + t) = sb_b (L.getD t 0)) (hqs : b0 + L.length ≤ sz) (hsz : sz ≤ 65536) (hp0 : p0 < L.length) : zM_v (S := Unit) l y_Mo_look w_Mo_look { frames := 1, cells := 0, slots := 0, locals := 21 } (dC, dI) vwCl [.ref mo, .ref q, .int (nI (b0 + p0)), .int (nI (L.length - p0))] [(mo, .inr (8, [.int th, .int fd, .ref rt, .int mn, .ref rk, .ref rv, .ref rw, .ref ro, .int md, .ref rr, .int pt, .ref ra, .long pz, .int kc, .ref rc, .ref rl, .ref rb, .int la, .int ca])), (q, .inl (cB, sz, .inl gq))] [(cB, .byte)] (fun (u : Unit) => True) (fun u => [(mo, .inr (8, [.int th, .int fd, .ref rt, .int mn, .ref rk, .ref rv, .ref rw, .ref ro, .int md, .ref rr, .int pt, .ref ra, .long pz, .int kc, .ref rc, .ref rl, .ref rb, .int (nI (lk_n (ut_at L p0))), .int (nI (cd_v (ut_at L p0)))])), (q, .inl (cB, sz, .inl gq))]) (fun u => [(cB, .byte)]) 0 0 := by
  refine zz_enterv (cc := prog_12_method_22_code) (nL := 9) (ret := none) (by decide) rfl (Nat.le_of_ble_eq_true rfl) ?_
  intro p e s m below meth c A ls C0 hA hS hP hK hD hl
  obtain ⟨hx, hb, hml, hown, hg, hr, hlocks, hin⟩ := C0
  have hown : s.vm.findClass "TextForgeModel" = some m.cls := hown
  have hP : va_P (dC, dI) vwCl [(mo, .inr (8, [.int th, .int fd, .ref rt, .int mn, .ref rk, .ref rv, .ref rw, .ref ro, .int md, .ref rr, .int pt, .ref ra, .long pz, .int kc, .ref rc, .ref rl, .ref rb, .int la, .int ca])), (q, .inl (cB, sz, .inl gq))] s.heap := hP
  have hK : va_K (dC, dI) vwCl [(cB, .byte)] s := hK
  have hD : va_D A [(mo, .inr (8, [.int th, .int fd, .ref rt, .int mn, .ref rk, .ref rv, .ref rw, .ref ro, .int md, .ref rr, .int pt, .ref ra, .long pz, .int kc, .ref rc, .ref rl, .ref rb, .int la, .int ca])), (q, .inl (cB, sz, .inl gq))] := hD
  have hl : lv_has ls 9 [(0, .ref mo), (1, .ref q), (2, .int (nI (b0 + p0))), (3, .int (nI (L.length - p0)))] := hl
  refine lv_aload_n hx hb d_Mo_look_0 rfl (lv_at hl 0 rfl) ?_
  refine lv_iconst (v := 0) hx hb d_Mo_look_1 (by decide) ?_
  refine va_put (D := (dC, dI)) (ci := 8) (v := .int 0) (ty := .int) (C := "TextForgeModel") (T := TX8) (N := 19) hx hb hg iwX8 tyX8 tyX8_ok nmX8 hown hK hP hD hS 0 rfl rfl 17 (by decide) (hg _ kw_743) (fun _ h9 => h9) rfl (by decide +kernel) rfl rfl (Nat.le_of_ble_eq_true rfl) d_Mo_look_2 (fun H locs hP hD hS => ?_)
  have hP : va_P (dC, dI) vwCl [(mo, .inr (8, [.int th, .int fd, .ref rt, .int mn, .ref rk, .ref rv, .ref rw, .ref ro, .int md, .ref rr, .int pt, .ref ra, .long pz, .int kc, .ref rc, .ref rl, .ref rb, .int 0, .int ca])), (q, .inl (cB, sz, .inl gq))] H := hP
  have hD : va_D A [(mo, .inr (8, [.int th, .int fd, .ref rt, .int mn, .ref rk, .ref rv, .ref rw, .ref ro, .int md, .ref rr, .int pt, .ref ra, .long pz, .int kc, .ref rc, .ref rl, .ref rb, .int 0, .int ca])), (q, .inl (cB, sz, .inl gq))] := hD
  refine lv_aload_n hx hb d_Mo_look_5 rfl (lv_at hl 0 rfl) ?_
  refine W.ldc (v := 65533) hx hb hown (hg _ kw_833) rfl d_Mo_look_6 ?_
  refine W.eq (g2 := F0 m 8 ls [.int 65533, .ref mo]) rfl ?_
  refine va_put (D := (dC, dI)) (ci := 8) (v := .int 65533) (ty := .int) (C := "TextForgeModel") (T := TX8) (N := 19) hx hb hg iwX8 tyX8 tyX8_ok nmX8 hown hK hP hD hS 0 rfl rfl 18 (by decide) (hg _ kw_744) (fun _ h9 => h9) rfl (by decide +kernel) rfl rfl (Nat.le_of_ble_eq_true rfl) d_Mo_look_8 (fun H locs hP hD hS => ?_)
  have hP : va_P (dC, dI) vwCl [(mo, .inr (8, [.int th, .int fd, .ref rt, .int mn, .ref rk, .ref rv, .ref rw, .ref ro, .int md, .ref rr, .int pt, .ref ra, .long pz, .int kc, .ref rc, .ref rl, .ref rb, .int 0, .int 65533])), (q, .inl (cB, sz, .inl gq))] H := hP
  have hD : va_D A [(mo, .inr (8, [.int th, .int fd, .ref rt, .int mn, .ref rk, .ref rv, .ref rw, .ref ro, .int md, .ref rr, .int pt, .ref ra, .long pz, .int kc, .ref rc, .ref rl, .ref rb, .int 0, .int 65533])), (q, .inl (cB, sz, .inl gq))] := hD
  refine lv_iconst (v := 1) hx hb d_Mo_look_11 (by decide) ?_
  refine lv_istore (lv' := [(4, .int 1), (0, .ref mo), (1, .ref q), (2, .int (nI (b0 + p0))), (3, .int (nI (L.length - p0)))]) hx hb d_Mo_look_12 hl (by decide) rfl (fun ls hl => ?_)
  rw [show Value.int 0 = Value.int (nI (lk_A (ut_at L p0) 1)) by rw [← lk_A0]; rfl, show Value.int 65533 = Value.int (nI (lk_B (ut_at L p0) 1)) by rw [← lk_B0]; rfl] at hP hD
  have hb9 := (hLq p0 hp0).1
  refine zz_loop (fun (x : Nat) H locs ls => match x with | k => va_P (dC, dI) vwCl [(mo, .inr (8, [.int th, .int fd, .ref rt, .int mn, .ref rk, .ref rv, .ref rw, .ref ro, .int md, .ref rr, .int pt, .ref ra, .long pz, .int kc, .ref rc, .ref rl, .ref rb, .int (nI (lk_A (ut_at L p0) k)), .int (nI (lk_B (ut_at L p0) k))])), (q, .inl (cB, sz, .inl gq))] H ∧ va_D A [(mo, .inr (8, [.int th, .int fd, .ref rt, .int mn, .ref rk, .ref rv, .ref rw, .ref ro, .int md, .ref rr, .int pt, .ref ra, .long pz, .int kc, .ref rc, .ref rl, .ref rb, .int (nI (lk_A (ut_at L p0) k)), .int (nI (lk_B (ut_at L p0) k))])), (q, .inl (cB, sz, .inl gq))] ∧ va_S A s.heap H locs ∧ lv_has ls 9 [(0, .ref mo), (1, .ref q), (2, .int (nI (b0 + p0))), (3, .int (nI (L.length - p0))), (4, .int (nI k))] ∧ 1 ≤ k ∧ k ≤ 5) (fun x => match x with | k => 5 - k) ?_ 1 ⟨hP.sub [0, 1] rfl, hD.sub [0, 1] (by decide) rfl, hS, lv_sub hl [1, 2, 3, 4, 0] rfl, (Nat.le_refl _), (by decide)⟩
  intro x H locs ls hI ih_14
  obtain ⟨k, rfl⟩ : ∃ z, z = x := ⟨_, rfl⟩
  try dsimp only at hI
  obtain ⟨hP, hD, hS, hl, hk1, hk5⟩ := hI
  refine lv_iload hx hb d_Mo_look_14 (lv_at hl 4 rfl) ?_
  refine lv_iconst (v := 4) hx hb d_Mo_look_16 (by decide) ?_
  refine lv_icmp_gt (tgt := 249) hx hb d_Mo_look_17 (by decide) (fun c_17 => ?_) (fun c_17 => ?_)
  · skip
    have f_17 : 4 < k := (nI_ltI (a := 4) (by omega) (by omega)).mp c_17
    have hen := lk_end (o := (ut_at L p0)) (k := k) (fun c9 hc9 => by have := ut_bn1 c9; have := (qt_in hc9).1; omega)
    have hP9 := hP.sub (ws' := [(mo, .inr (8, [.int th, .int fd, .ref rt, .int mn, .ref rk, .ref rv, .ref rw, .ref ro, .int md, .ref rr, .int pt, .ref ra, .long pz, .int kc, .ref rc, .ref rl, .ref rb, .int (nI (lk_A (ut_at L p0) k)), .int (nI (lk_B (ut_at L p0) k))])), (q, .inl (cB, sz, .inl gq))]) [0, 1] rfl
    have hD9 := hD.sub (ws' := [(mo, .inr (8, [.int th, .int fd, .ref rt, .int mn, .ref rk, .ref rv, .ref rw, .ref ro, .int md, .ref rr, .int pt, .ref ra, .long pz, .int kc, .ref rc, .ref rl, .ref rb, .int (nI (lk_A (ut_at L p0) k)), .int (nI (lk_B (ut_at L p0) k))])), (q, .inl (cB, sz, .inl gq))]) [0, 1] (by decide) rfl
    have hK9 := hK.sub (tys' := [(cB, .byte)]) [0] rfl
    rw [hen.1] at hP9 hD9
    rw [hen.2] at hP9 hD9
    exact zz_vret hx hb hr hlocks d_Mo_look_249 hS (by first | exact Nat.le_refl _ | decide | omega | (dsimp only; omega)) (by first | exact Nat.le_refl _ | decide | omega | (dsimp only; omega)) () trivial hP9 hK9 hD9
  · skip
    have f_17 : k ≤ 4 := Nat.le_of_not_lt (fun z => c_17 (nI_lt (a := 4) z (by omega)))
    refine lv_iload hx hb d_Mo_look_20 (lv_at hl 4 rfl) ?_
    refine lv_iload_n hx hb d_Mo_look_22 rfl (lv_at hl 3 rfl) ?_
    refine lv_icmp_gt (tgt := 249) hx hb d_Mo_look_23 (by decide) (fun c_23 => ?_) (fun c_23 => ?_)
    · skip
      have f_23 : (L.length - p0) < k := (nI_ltI (a := (L.length - p0)) (by omega) (by omega)).mp c_23
      have hen := lk_end (o := (ut_at L p0)) (k := k) (fun c9 hc9 => by have := ut_bn1 c9; have := (qt_in hc9).1; omega)
      have hP9 := hP.sub (ws' := [(mo, .inr (8, [.int th, .int fd, .ref rt, .int mn, .ref rk, .ref rv, .ref rw, .ref ro, .int md, .ref rr, .int pt, .ref ra, .long pz, .int kc, .ref rc, .ref rl, .ref rb, .int (nI (lk_A (ut_at L p0) k)), .int (nI (lk_B (ut_at L p0) k))])), (q, .inl (cB, sz, .inl gq))]) [0, 1] rfl
      have hD9 := hD.sub (ws' := [(mo, .inr (8, [.int th, .int fd, .ref rt, .int mn, .ref rk, .ref rv, .ref rw, .ref ro, .int md, .ref rr, .int pt, .ref ra, .long pz, .int kc, .ref rc, .ref rl, .ref rb, .int (nI (lk_A (ut_at L p0) k)), .int (nI (lk_B (ut_at L p0) k))])), (q, .inl (cB, sz, .inl gq))]) [0, 1] (by decide) rfl
      have hK9 := hK.sub (tys' := [(cB, .byte)]) [0] rfl
      rw [hen.1] at hP9 hD9
      rw [hen.2] at hP9 hD9
      exact zz_vret hx hb hr hlocks d_Mo_look_249 hS (by first | exact Nat.le_refl _ | decide | omega | (dsimp only; omega)) (by first | exact Nat.le_refl _ | decide | omega | (dsimp only; omega)) () trivial hP9 hK9 hD9
    · skip
      have f_23 : k ≤ (L.length - p0) := Nat.le_of_not_lt (fun z => c_23 (nI_lt (a := (L.length - p0)) z (by omega)))
      refine lv_aload_n hx hb d_Mo_look_26 rfl (lv_at hl 1 rfl) ?_
      refine lv_iload_n hx hb d_Mo_look_27 rfl (lv_at hl 2 rfl) ?_
      refine va_bald hx hb hK hP 1 0 rfl rfl (vp_in_nI (by omega) (by omega)) d_Mo_look_28 ?_
      refine lv_topi (fun y_1 ey_1 => ?_)
      have ey_1 : y_1 = (sb_b (L.getD p0 0) : Int32) := ey_1.trans (show (gq (nI (b0 + p0)).toNatClampNeg) = sb_b (L.getD p0 0) from (by rw [nI_clamp (show b0 + p0 < 2 ^ 31 by omega)]; exact (hLq p0 hp0).2))
      subst ey_1
      refine lv_sipush (v := 255) hx hb d_Mo_look_29 (by decide) ?_
      refine lv_iand hx hb d_Mo_look_32 ?_
      refine lv_topi (fun y_2 ey_2 => ?_)
      have ey_2 : y_2 = (nI (L.getD p0 0) : Int32) := ey_2.trans (show ((sb_b (L.getD p0 0)) &&& 255) = nI (L.getD p0 0) from (sb_255 _ hb9))
      subst ey_2
      refine lv_istore (lv' := [(5, .int (nI (L.getD p0 0))), (0, .ref mo), (1, .ref q), (2, .int (nI (b0 + p0))), (3, .int (nI (L.length - p0))), (4, .int (nI k))]) hx hb d_Mo_look_33 hl (by decide) rfl (fun ls hl => ?_)
      refine lv_iload hx hb d_Mo_look_35 (lv_at hl 5 rfl) ?_
      refine lv_iconst (v := 1) hx hb d_Mo_look_37 (by decide) ?_
      refine lv_icmp_ne (tgt := 46) hx hb d_Mo_look_38 (by decide) (fun c_38 => ?_) (fun c_38 => ?_)
      · skip
        have f_38 : k ≠ 1 := nI_ne (b := 1) c_38
        refine lv_iload hx hb d_Mo_look_46 (lv_at hl 0 rfl) ?_
        refine lv_iconst (v := 1) hx hb d_Mo_look_48 (by decide) ?_
        refine lv_bipush (v := 7) hx hb d_Mo_look_49 (by decide) ?_
        refine lv_iload hx hb d_Mo_look_51 (lv_at hl 5 rfl) ?_
        refine lv_isub hx hb d_Mo_look_53 ?_
        refine lv_ishl hx hb d_Mo_look_54 ?_
        refine lv_iconst (v := 1) hx hb d_Mo_look_55 (by decide) ?_
        refine lv_isub hx hb d_Mo_look_56 ?_
        refine lv_iand hx hb d_Mo_look_57 ?_
        refine lv_topi (fun y_3 ey_3 => ?_)
        have ey_3 : y_3 = (nI (lk_c L p0 k 0) : Int32) := ey_3.trans (show ((nI (L.getD p0 0)) &&& (((1 : Int32) <<< ((7 - (nI k)) &&& 31)) - 1)) = nI (lk_c L p0 k 0) from ((lk_m hb9 ⟨hk1, f_17⟩ f_38).trans (by rw [lk_c, if_neg f_38])))
        subst ey_3
        refine lv_istore (lv' := [(6, .int (nI (lk_c L p0 k 0))), (5, .int (nI (L.getD p0 0))), (0, .ref mo), (1, .ref q), (2, .int (nI (b0 + p0))), (3, .int (nI (L.length - p0))), (4, .int (nI k))]) hx hb d_Mo_look_58 hl (by decide) rfl (fun ls hl => ?_)
        refine lv_iload hx hb d_Mo_look_60 (lv_at hl 6 rfl) ?_
        refine lv_iconst (v := 1) hx hb d_Mo_look_62 (by decide) ?_
        refine lv_icmp_ne (tgt := 82) hx hb d_Mo_look_63 (by decide) (fun _ => ?_) (fun c9 => by first | exact absurd c9 c_38 | exact absurd c_38 c9)
        refine lv_iload hx hb d_Mo_look_82 (lv_at hl 1 rfl) ?_
        refine lv_bipush (v := 7) hx hb d_Mo_look_84 (by decide) ?_
        refine lv_iload hx hb d_Mo_look_86 (lv_at hl 6 rfl) ?_
        refine lv_isub hx hb d_Mo_look_88 ?_
        refine lv_ishr hx hb d_Mo_look_89 ?_
        refine lv_iconst (v := 1) hx hb d_Mo_look_90 (by decide) ?_
        refine lv_iload hx hb d_Mo_look_91 (lv_at hl 6 rfl) ?_
        refine lv_iconst (v := 1) hx hb d_Mo_look_93 (by decide) ?_
        refine lv_iadd hx hb d_Mo_look_94 ?_
        refine lv_ishl hx hb d_Mo_look_95 ?_
        refine lv_iconst (v := 2) hx hb d_Mo_look_96 (by decide) ?_
        refine lv_isub hx hb d_Mo_look_97 ?_
        refine lv_icmp_ne (tgt := 105) hx hb d_Mo_look_98 (by decide) (fun c_98 => ?_) (fun c_98 => ?_)
        · skip
          refine lv_iconst (v := 0) hx hb d_Mo_look_105 (by decide) ?_
          refine lv_topi (fun y_4 ey_4 => ?_)
          have ey_4 : y_4 = (by_z (lk_i L p0 k 0) : Int32) := ey_4.trans (show 0 = by_z (lk_i L p0 k 0) from (by rw [lk_i, if_neg f_38, decide_eq_false (fun z => c_98 ((lk_j hb9 ⟨hk1, f_17⟩ f_38).mpr z))]; rfl))
          subst ey_4
          refine lv_istore (lv' := [(7, .int (by_z (lk_i L p0 k 0))), (6, .int (nI (lk_c L p0 k 0))), (5, .int (nI (L.getD p0 0))), (0, .ref mo), (1, .ref q), (2, .int (nI (b0 + p0))), (3, .int (nI (L.length - p0))), (4, .int (nI k))]) hx hb d_Mo_look_106 hl (by decide) rfl (fun ls hl => ?_)
          refine lv_iconst (v := 1) hx hb d_Mo_look_108 (by decide) ?_
          refine lv_istore (lv' := [(8, .int 1), (7, .int (by_z (lk_i L p0 k 0))), (6, .int (nI (lk_c L p0 k 0))), (5, .int (nI (L.getD p0 0))), (0, .ref mo), (1, .ref q), (2, .int (nI (b0 + p0))), (3, .int (nI (L.length - p0))), (4, .int (nI k))]) hx hb d_Mo_look_109 hl (by decide) rfl (fun ls hl => ?_)
          refine zz_loop (fun (x : Nat) H locs ls => match x with | i0 => va_P (dC, dI) vwCl [(mo, .inr (8, [.int th, .int fd, .ref rt, .int mn, .ref rk, .ref rv, .ref rw, .ref ro, .int md, .ref rr, .int pt, .ref ra, .long pz, .int kc, .ref rc, .ref rl, .ref rb, .int (nI (lk_A (ut_at L p0) k)), .int (nI (lk_B (ut_at L p0) k))])), (q, .inl (cB, sz, .inl gq))] H ∧ va_D A [(mo, .inr (8, [.int th, .int fd, .ref rt, .int mn, .ref rk, .ref rv, .ref rw, .ref ro, .int md, .ref rr, .int pt, .ref ra, .long pz, .int kc, .ref rc, .ref rl, .ref rb, .int (nI (lk_A (ut_at L p0) k)), .int (nI (lk_B (ut_at L p0) k))])), (q, .inl (cB, sz, .inl gq))] ∧ va_S A s.heap H locs ∧ lv_has ls 9 [(0, .ref mo), (1, .ref q), (2, .int (nI (b0 + p0))), (3, .int (nI (L.length - p0))), (4, .int (nI k)), (6, .int (nI (lk_c L p0 k i0))), (7, .int (by_z (lk_i L p0 k i0))), (8, .int (nI (i0 + 1)))] ∧ i0 + 1 ≤ k) (fun x => match x with | i0 => k - i0) ?_ 0 ⟨hP.sub [0, 1] rfl, hD.sub [0, 1] (by decide) rfl, hS, lv_sub hl [4, 5, 6, 7, 8, 2, 1, 0] rfl, hk1⟩
          intro x H locs ls hI ih_111
          obtain ⟨i0, rfl⟩ : ∃ z, z = x := ⟨_, rfl⟩
          try dsimp only at hI
          obtain ⟨hP, hD, hS, hl, hi0⟩ := hI
          refine lv_iload hx hb d_Mo_look_111 (lv_at hl 7 rfl) ?_
          refine lv_iload hx hb d_Mo_look_113 (lv_at hl 4 rfl) ?_
          refine lv_icmp_ge (tgt := 169) hx hb d_Mo_look_115 (by decide) (fun c_115 => ?_) (fun c_115 => ?_)
          · skip
            have f_115 : k ≤ (i0 + 1) := Nat.le_of_not_lt (fun z => nI_ge (b := k) z (by omega) c_115)
            have hie : i0 = k - 1 := by omega
            rw [hie] at hl
            refine lv_iload hx hb d_Mo_look_169 (lv_at hl 4 rfl) ?_
            refine lv_iconst (v := 1) hx hb d_Mo_look_171 (by decide) ?_
            refine lv_icmp_ne (tgt := 179) hx hb d_Mo_look_172 (by decide) (fun _ => ?_) (fun c9 => by first | exact absurd c9 c_38 | exact absurd c_38 c9)
            refine lv_iload hx hb d_Mo_look_179 (lv_at hl 4 rfl) ?_
            refine lv_iconst (v := 2) hx hb d_Mo_look_181 (by decide) ?_
            refine lv_icmp_ne (tgt := 191) hx hb d_Mo_look_182 (by decide) (fun c_182 => ?_) (fun c_182 => ?_)
            · skip
              have f_182 : k ≠ 2 := nI_ne (b := 2) c_182
              refine lv_iload hx hb d_Mo_look_191 (lv_at hl 4 rfl) ?_
              refine lv_iconst (v := 3) hx hb d_Mo_look_193 (by decide) ?_
              refine lv_icmp_ne (tgt := 203) hx hb d_Mo_look_194 (by decide) (fun c_194 => ?_) (fun c_194 => ?_)
              · skip
                have f_194 : k ≠ 3 := nI_ne (b := 3) c_194
                refine W.ldc (v := 65536) hx hb hown (hg _ kw_725) rfl d_Mo_look_203 ?_
                refine W.eq (g2 := F0 m 205 ls [.int 65536]) rfl ?_
                refine lv_istore (lv' := [(8, .int 65536), (0, .ref mo), (1, .ref q), (2, .int (nI (b0 + p0))), (3, .int (nI (L.length - p0))), (4, .int (nI k)), (6, .int (nI (lk_c L p0 k (k - 1)))), (7, .int (by_z (lk_i L p0 k (k - 1))))]) hx hb d_Mo_look_205 hl (by decide) rfl (fun ls hl => ?_)
                refine lv_iload hx hb d_Mo_look_207 (lv_at hl 7 rfl) ?_
                refine lv_if_eq (tgt := 243) hx hb d_Mo_look_209 (by decide) (fun c_209 => ?_) (fun c_209 => ?_)
                · skip
                  refine lv_iinc (v := (nI k) + 1) (lv' := [(4, .int ((nI k) + 1)), (8, .int 65536), (0, .ref mo), (1, .ref q), (2, .int (nI (b0 + p0))), (3, .int (nI (L.length - p0))), (6, .int (nI (lk_c L p0 k (k - 1)))), (7, .int (by_z (lk_i L p0 k (k - 1))))]) hx hb d_Mo_look_243 hl (k := 5) rfl rfl (by decide) rfl (fun ls hl => ?_)
                  refine lv_goto (tgt := 14) hx hb d_Mo_look_246 (by decide) ?_
                  have hso := lk_no (o := (ut_at L p0)) (k := k) (fun c9 hc9 hk9 => absurd (lk_inv hc9 hk9).1 (by rw [by_z_f rfl c_209]; decide))
                  rw [hso.1, hso.2] at hP hD
                  rw [nI_1] at hl
                  exact ih_14 (k + 1) H locs ls ⟨hP.sub [0, 1] rfl, hD.sub [0, 1] (by decide) rfl, hS, lv_sub hl [2, 3, 4, 5, 0] rfl, (by omega), (by omega)⟩ (by dsimp only; omega)
                · skip
                  have hlk1 := by_z_t rfl c_209
                  have hcb := lk_b3 (k := k) (i := k - 1) hb9 (by omega)
                  refine lv_iload hx hb d_Mo_look_212 (lv_at hl 6 rfl) ?_
                  refine lv_iload hx hb d_Mo_look_214 (lv_at hl 0 rfl) ?_
                  refine lv_icmp_lt (tgt := 243) hx hb d_Mo_look_216 (by decide) (fun c_216 => ?_) (fun c_216 => ?_)
                  · skip
                    have f_216 : (lk_c L p0 k (k - 1)) < 65536 := (nI_ltI (b := 65536) (by omega) (by omega)).mp c_216
                    refine lv_iinc (v := (nI k) + 1) (lv' := [(4, .int ((nI k) + 1)), (8, .int 65536), (0, .ref mo), (1, .ref q), (2, .int (nI (b0 + p0))), (3, .int (nI (L.length - p0))), (6, .int (nI (lk_c L p0 k (k - 1)))), (7, .int (by_z (lk_i L p0 k (k - 1))))]) hx hb d_Mo_look_243 hl (k := 5) rfl rfl (by decide) rfl (fun ls hl => ?_)
                    refine lv_goto (tgt := 14) hx hb d_Mo_look_246 (by decide) ?_
                    have hso := lk_no (o := (ut_at L p0)) (k := k) (fun c9 hc9 hk9 => absurd (lk_inv hc9 hk9).2.1 (by rw [show lk_l k = 65536 by unfold lk_l; rw [if_neg f_38, if_neg f_182, if_neg f_194]]; omega))
                    rw [hso.1, hso.2] at hP hD
                    rw [nI_1] at hl
                    exact ih_14 (k + 1) H locs ls ⟨hP.sub [0, 1] rfl, hD.sub [0, 1] (by decide) rfl, hS, lv_sub hl [2, 3, 4, 5, 0] rfl, (by omega), (by omega)⟩ (by dsimp only; omega)
                  · skip
                    have f_216 : 65536 ≤ (lk_c L p0 k (k - 1)) := Nat.le_of_not_lt (fun z => c_216 (nI_lt (b := 65536) z (by omega)))
                    have hlk2 : lk_l k ≤ (lk_c L p0 k (k - 1)) := by rw [show lk_l k = 65536 by unfold lk_l; rw [if_neg f_38, if_neg f_182, if_neg f_194]]; omega
                    refine lv_iload hx hb d_Mo_look_219 (lv_at hl 6 rfl) ?_
                    refine lv_i2l hx hb d_Mo_look_221 rfl ?_
                    have hPc := hP.sub (ws' := []) [] rfl
                    have hKc := hK.sub (tys' := []) [] rfl
                    refine vp_callSi (W.runS (As := [.long ((nI (lk_c L p0 k (k - 1))).toInt64)]) (rest := []) ⟨hx, hb, hml, hown, hg⟩ (c_Mo_isCode l dC dI ((nI (lk_c L p0 k (k - 1))).toInt64) ) (va_cwS 1 hg (gi_S kw_834 kw_835 kw_9 kw_836) rfl rfl rfl (by decide +kernel) ⟨Nat.le_of_ble_eq_true rfl, Nat.le_of_ble_eq_true rfl⟩) (zz_prJS hPc hKc _) rfl rfl hl.1 rfl (lv_room (Nat.le_of_ble_eq_true rfl)) d_Mo_look_222 ⟨Nat.le_of_ble_eq_true rfl, Nat.le_of_ble_eq_true rfl⟩) (fun r_5 hr_5 => ?_)
                    rw [ut_tl (by omega)] at hr_5
                    refine lv_if_ne (tgt := 231) hx hb d_Mo_look_225 (by decide) (fun c_225 => ?_) (fun c_225 => ?_)
                    · skip
                      have hlk3 := by_z_t hr_5 c_225
                      refine lv_aload_n hx hb d_Mo_look_231 rfl (lv_at hl 1 rfl) ?_
                      refine lv_iload hx hb d_Mo_look_232 (lv_at hl 5 rfl) ?_
                      refine va_put (D := (dC, dI)) (ci := 8) (v := .int (nI k)) (ty := .int) (C := "TextForgeModel") (T := TX8) (N := 19) hx hb hg iwX8 tyX8 tyX8_ok nmX8 hown hK hP hD hS 0 rfl rfl 17 (by decide) (hg _ kw_743) (fun _ h9 => h9) rfl (by decide +kernel) rfl rfl (Nat.le_of_ble_eq_true rfl) d_Mo_look_234 (fun H locs hP hD hS => ?_)
                      have hP : va_P (dC, dI) vwCl [(mo, .inr (8, [.int th, .int fd, .ref rt, .int mn, .ref rk, .ref rv, .ref rw, .ref ro, .int md, .ref rr, .int pt, .ref ra, .long pz, .int kc, .ref rc, .ref rl, .ref rb, .int (nI k), .int (nI (lk_B (ut_at L p0) k))])), (q, .inl (cB, sz, .inl gq))] H := hP
                      have hD : va_D A [(mo, .inr (8, [.int th, .int fd, .ref rt, .int mn, .ref rk, .ref rv, .ref rw, .ref ro, .int md, .ref rr, .int pt, .ref ra, .long pz, .int kc, .ref rc, .ref rl, .ref rb, .int (nI k), .int (nI (lk_B (ut_at L p0) k))])), (q, .inl (cB, sz, .inl gq))] := hD
                      refine lv_aload_n hx hb d_Mo_look_237 rfl (lv_at hl 1 rfl) ?_
                      refine lv_iload hx hb d_Mo_look_238 (lv_at hl 6 rfl) ?_
                      refine va_put (D := (dC, dI)) (ci := 8) (v := .int (nI (lk_c L p0 k (k - 1)))) (ty := .int) (C := "TextForgeModel") (T := TX8) (N := 19) hx hb hg iwX8 tyX8 tyX8_ok nmX8 hown hK hP hD hS 0 rfl rfl 18 (by decide) (hg _ kw_744) (fun _ h9 => h9) rfl (by decide +kernel) rfl rfl (Nat.le_of_ble_eq_true rfl) d_Mo_look_240 (fun H locs hP hD hS => ?_)
                      have hP : va_P (dC, dI) vwCl [(mo, .inr (8, [.int th, .int fd, .ref rt, .int mn, .ref rk, .ref rv, .ref rw, .ref ro, .int md, .ref rr, .int pt, .ref ra, .long pz, .int kc, .ref rc, .ref rl, .ref rb, .int (nI k), .int (nI (lk_c L p0 k (k - 1)))])), (q, .inl (cB, sz, .inl gq))] H := hP
                      have hD : va_D A [(mo, .inr (8, [.int th, .int fd, .ref rt, .int mn, .ref rk, .ref rv, .ref rw, .ref ro, .int md, .ref rr, .int pt, .ref ra, .long pz, .int kc, .ref rc, .ref rl, .ref rb, .int (nI k), .int (nI (lk_c L p0 k (k - 1)))])), (q, .inl (cB, sz, .inl gq))] := hD
                      refine lv_iinc (v := (nI k) + 1) (lv' := [(4, .int ((nI k) + 1)), (8, .int 65536), (0, .ref mo), (1, .ref q), (2, .int (nI (b0 + p0))), (3, .int (nI (L.length - p0))), (6, .int (nI (lk_c L p0 k (k - 1)))), (7, .int (by_z (lk_i L p0 k (k - 1))))]) hx hb d_Mo_look_243 hl (k := 5) rfl rfl (by decide) rfl (fun ls hl => ?_)
                      refine lv_goto (tgt := 14) hx hb d_Mo_look_246 (by decide) ?_
                      have hso := lk_so (lk_yes ⟨hk1, by omega⟩ (by omega) hb9 hlk1 hlk2 hlk3)
                      rw [show Value.int (nI k) = Value.int (nI (lk_A (ut_at L p0) (k + 1))) by rw [← hso.1], show Value.int (nI (lk_c L p0 k (k - 1))) = Value.int (nI (lk_B (ut_at L p0) (k + 1))) by rw [← hso.2]] at hP hD
                      rw [nI_1] at hl
                      exact ih_14 (k + 1) H locs ls ⟨hP.sub [0, 1] rfl, hD.sub [0, 1] (by decide) rfl, hS, lv_sub hl [2, 3, 4, 5, 0] rfl, (by omega), (by omega)⟩ (by dsimp only; omega)
                    · skip
                      refine lv_goto (tgt := 243) hx hb d_Mo_look_228 (by decide) ?_
                      refine lv_iinc (v := (nI k) + 1) (lv' := [(4, .int ((nI k) + 1)), (8, .int 65536), (0, .ref mo), (1, .ref q), (2, .int (nI (b0 + p0))), (3, .int (nI (L.length - p0))), (6, .int (nI (lk_c L p0 k (k - 1)))), (7, .int (by_z (lk_i L p0 k (k - 1))))]) hx hb d_Mo_look_243 hl (k := 5) rfl rfl (by decide) rfl (fun ls hl => ?_)
                      refine lv_goto (tgt := 14) hx hb d_Mo_look_246 (by decide) ?_
                      have hso := lk_no (o := (ut_at L p0)) (k := k) (fun c9 hc9 hk9 => absurd (lk_inv hc9 hk9).2.2 (by rw [by_z_f hr_5 c_225]; decide))
                      rw [hso.1, hso.2] at hP hD
                      rw [nI_1] at hl
                      exact ih_14 (k + 1) H locs ls ⟨hP.sub [0, 1] rfl, hD.sub [0, 1] (by decide) rfl, hS, lv_sub hl [2, 3, 4, 5, 0] rfl, (by omega), (by omega)⟩ (by dsimp only; omega)
              · skip
                have f_194 : k = 3 := nI_e1 (b := 3) c_194 (by omega) (by omega)
                refine lv_sipush (v := 2048) hx hb d_Mo_look_197 (by decide) ?_
                refine lv_goto (tgt := 205) hx hb d_Mo_look_200 (by decide) ?_
                refine lv_istore (lv' := [(8, .int 2048), (0, .ref mo), (1, .ref q), (2, .int (nI (b0 + p0))), (3, .int (nI (L.length - p0))), (4, .int (nI k)), (6, .int (nI (lk_c L p0 k (k - 1)))), (7, .int (by_z (lk_i L p0 k (k - 1))))]) hx hb d_Mo_look_205 hl (by decide) rfl (fun ls hl => ?_)
                refine lv_iload hx hb d_Mo_look_207 (lv_at hl 7 rfl) ?_
                refine lv_if_eq (tgt := 243) hx hb d_Mo_look_209 (by decide) (fun c_209 => ?_) (fun c_209 => ?_)
                · skip
                  refine lv_iinc (v := (nI k) + 1) (lv' := [(4, .int ((nI k) + 1)), (8, .int 2048), (0, .ref mo), (1, .ref q), (2, .int (nI (b0 + p0))), (3, .int (nI (L.length - p0))), (6, .int (nI (lk_c L p0 k (k - 1)))), (7, .int (by_z (lk_i L p0 k (k - 1))))]) hx hb d_Mo_look_243 hl (k := 5) rfl rfl (by decide) rfl (fun ls hl => ?_)
                  refine lv_goto (tgt := 14) hx hb d_Mo_look_246 (by decide) ?_
                  have hso := lk_no (o := (ut_at L p0)) (k := k) (fun c9 hc9 hk9 => absurd (lk_inv hc9 hk9).1 (by rw [by_z_f rfl c_209]; decide))
                  rw [hso.1, hso.2] at hP hD
                  rw [nI_1] at hl
                  exact ih_14 (k + 1) H locs ls ⟨hP.sub [0, 1] rfl, hD.sub [0, 1] (by decide) rfl, hS, lv_sub hl [2, 3, 4, 5, 0] rfl, (by omega), (by omega)⟩ (by dsimp only; omega)
                · skip
                  have hlk1 := by_z_t rfl c_209
                  have hcb := lk_b3 (k := k) (i := k - 1) hb9 (by omega)
                  refine lv_iload hx hb d_Mo_look_212 (lv_at hl 6 rfl) ?_
                  refine lv_iload hx hb d_Mo_look_214 (lv_at hl 0 rfl) ?_
                  refine lv_icmp_lt (tgt := 243) hx hb d_Mo_look_216 (by decide) (fun c_216 => ?_) (fun c_216 => ?_)
                  · skip
                    have f_216 : (lk_c L p0 k (k - 1)) < 2048 := (nI_ltI (b := 2048) (by omega) (by omega)).mp c_216
                    refine lv_iinc (v := (nI k) + 1) (lv' := [(4, .int ((nI k) + 1)), (8, .int 2048), (0, .ref mo), (1, .ref q), (2, .int (nI (b0 + p0))), (3, .int (nI (L.length - p0))), (6, .int (nI (lk_c L p0 k (k - 1)))), (7, .int (by_z (lk_i L p0 k (k - 1))))]) hx hb d_Mo_look_243 hl (k := 5) rfl rfl (by decide) rfl (fun ls hl => ?_)
                    refine lv_goto (tgt := 14) hx hb d_Mo_look_246 (by decide) ?_
                    have hso := lk_no (o := (ut_at L p0)) (k := k) (fun c9 hc9 hk9 => absurd (lk_inv hc9 hk9).2.1 (by rw [show lk_l k = 2048 by rw [f_194]; rfl]; omega))
                    rw [hso.1, hso.2] at hP hD
                    rw [nI_1] at hl
                    exact ih_14 (k + 1) H locs ls ⟨hP.sub [0, 1] rfl, hD.sub [0, 1] (by decide) rfl, hS, lv_sub hl [2, 3, 4, 5, 0] rfl, (by omega), (by omega)⟩ (by dsimp only; omega)
                  · skip
                    have f_216 : 2048 ≤ (lk_c L p0 k (k - 1)) := Nat.le_of_not_lt (fun z => c_216 (nI_lt (b := 2048) z (by omega)))
                    have hlk2 : lk_l k ≤ (lk_c L p0 k (k - 1)) := by rw [show lk_l k = 2048 by rw [f_194]; rfl]; omega
                    refine lv_iload hx hb d_Mo_look_219 (lv_at hl 6 rfl) ?_
                    refine lv_i2l hx hb d_Mo_look_221 rfl ?_
                    have hPc := hP.sub (ws' := []) [] rfl
                    have hKc := hK.sub (tys' := []) [] rfl
                    refine vp_callSi (W.runS (As := [.long ((nI (lk_c L p0 k (k - 1))).toInt64)]) (rest := []) ⟨hx, hb, hml, hown, hg⟩ (c_Mo_isCode l dC dI ((nI (lk_c L p0 k (k - 1))).toInt64) ) (va_cwS 1 hg (gi_S kw_834 kw_835 kw_9 kw_836) rfl rfl rfl (by decide +kernel) ⟨Nat.le_of_ble_eq_true rfl, Nat.le_of_ble_eq_true rfl⟩) (zz_prJS hPc hKc _) rfl rfl hl.1 rfl (lv_room (Nat.le_of_ble_eq_true rfl)) d_Mo_look_222 ⟨Nat.le_of_ble_eq_true rfl, Nat.le_of_ble_eq_true rfl⟩) (fun r_6 hr_6 => ?_)
                    rw [ut_tl (by omega)] at hr_6
                    refine lv_if_ne (tgt := 231) hx hb d_Mo_look_225 (by decide) (fun c_225 => ?_) (fun c_225 => ?_)
                    · skip
                      have hlk3 := by_z_t hr_6 c_225
                      refine lv_aload_n hx hb d_Mo_look_231 rfl (lv_at hl 1 rfl) ?_
                      refine lv_iload hx hb d_Mo_look_232 (lv_at hl 5 rfl) ?_
                      refine va_put (D := (dC, dI)) (ci := 8) (v := .int (nI k)) (ty := .int) (C := "TextForgeModel") (T := TX8) (N := 19) hx hb hg iwX8 tyX8 tyX8_ok nmX8 hown hK hP hD hS 0 rfl rfl 17 (by decide) (hg _ kw_743) (fun _ h9 => h9) rfl (by decide +kernel) rfl rfl (Nat.le_of_ble_eq_true rfl) d_Mo_look_234 (fun H locs hP hD hS => ?_)
                      have hP : va_P (dC, dI) vwCl [(mo, .inr (8, [.int th, .int fd, .ref rt, .int mn, .ref rk, .ref rv, .ref rw, .ref ro, .int md, .ref rr, .int pt, .ref ra, .long pz, .int kc, .ref rc, .ref rl, .ref rb, .int (nI k), .int (nI (lk_B (ut_at L p0) k))])), (q, .inl (cB, sz, .inl gq))] H := hP
                      have hD : va_D A [(mo, .inr (8, [.int th, .int fd, .ref rt, .int mn, .ref rk, .ref rv, .ref rw, .ref ro, .int md, .ref rr, .int pt, .ref ra, .long pz, .int kc, .ref rc, .ref rl, .ref rb, .int (nI k), .int (nI (lk_B (ut_at L p0) k))])), (q, .inl (cB, sz, .inl gq))] := hD
                      refine lv_aload_n hx hb d_Mo_look_237 rfl (lv_at hl 1 rfl) ?_
                      refine lv_iload hx hb d_Mo_look_238 (lv_at hl 6 rfl) ?_
                      refine va_put (D := (dC, dI)) (ci := 8) (v := .int (nI (lk_c L p0 k (k - 1)))) (ty := .int) (C := "TextForgeModel") (T := TX8) (N := 19) hx hb hg iwX8 tyX8 tyX8_ok nmX8 hown hK hP hD hS 0 rfl rfl 18 (by decide) (hg _ kw_744) (fun _ h9 => h9) rfl (by decide +kernel) rfl rfl (Nat.le_of_ble_eq_true rfl) d_Mo_look_240 (fun H locs hP hD hS => ?_)
                      have hP : va_P (dC, dI) vwCl [(mo, .inr (8, [.int th, .int fd, .ref rt, .int mn, .ref rk, .ref rv, .ref rw, .ref ro, .int md, .ref rr, .int pt, .ref ra, .long pz, .int kc, .ref rc, .ref rl, .ref rb, .int (nI k), .int (nI (lk_c L p0 k (k - 1)))])), (q, .inl (cB, sz, .inl gq))] H := hP
                      have hD : va_D A [(mo, .inr (8, [.int th, .int fd, .ref rt, .int mn, .ref rk, .ref rv, .ref rw, .ref ro, .int md, .ref rr, .int pt, .ref ra, .long pz, .int kc, .ref rc, .ref rl, .ref rb, .int (nI k), .int (nI (lk_c L p0 k (k - 1)))])), (q, .inl (cB, sz, .inl gq))] := hD
                      refine lv_iinc (v := (nI k) + 1) (lv' := [(4, .int ((nI k) + 1)), (8, .int 2048), (0, .ref mo), (1, .ref q), (2, .int (nI (b0 + p0))), (3, .int (nI (L.length - p0))), (6, .int (nI (lk_c L p0 k (k - 1)))), (7, .int (by_z (lk_i L p0 k (k - 1))))]) hx hb d_Mo_look_243 hl (k := 5) rfl rfl (by decide) rfl (fun ls hl => ?_)
                      refine lv_goto (tgt := 14) hx hb d_Mo_look_246 (by decide) ?_
                      have hso := lk_so (lk_yes ⟨hk1, by omega⟩ (by omega) hb9 hlk1 hlk2 hlk3)
                      rw [show Value.int (nI k) = Value.int (nI (lk_A (ut_at L p0) (k + 1))) by rw [← hso.1], show Value.int (nI (lk_c L p0 k (k - 1))) = Value.int (nI (lk_B (ut_at L p0) (k + 1))) by rw [← hso.2]] at hP hD
                      rw [nI_1] at hl
                      exact ih_14 (k + 1) H locs ls ⟨hP.sub [0, 1] rfl, hD.sub [0, 1] (by decide) rfl, hS, lv_sub hl [2, 3, 4, 5, 0] rfl, (by omega), (by omega)⟩ (by dsimp only; omega)
                    · skip
                      refine lv_goto (tgt := 243) hx hb d_Mo_look_228 (by decide) ?_
                      refine lv_iinc (v := (nI k) + 1) (lv' := [(4, .int ((nI k) + 1)), (8, .int 2048), (0, .ref mo), (1, .ref q), (2, .int (nI (b0 + p0))), (3, .int (nI (L.length - p0))), (6, .int (nI (lk_c L p0 k (k - 1)))), (7, .int (by_z (lk_i L p0 k (k - 1))))]) hx hb d_Mo_look_243 hl (k := 5) rfl rfl (by decide) rfl (fun ls hl => ?_)
                      refine lv_goto (tgt := 14) hx hb d_Mo_look_246 (by decide) ?_
                      have hso := lk_no (o := (ut_at L p0)) (k := k) (fun c9 hc9 hk9 => absurd (lk_inv hc9 hk9).2.2 (by rw [by_z_f hr_6 c_225]; decide))
                      rw [hso.1, hso.2] at hP hD
                      rw [nI_1] at hl
                      exact ih_14 (k + 1) H locs ls ⟨hP.sub [0, 1] rfl, hD.sub [0, 1] (by decide) rfl, hS, lv_sub hl [2, 3, 4, 5, 0] rfl, (by omega), (by omega)⟩ (by dsimp only; omega)
            · skip
              have f_182 : k = 2 := nI_e1 (b := 2) c_182 (by omega) (by omega)
              refine lv_sipush (v := 128) hx hb d_Mo_look_185 (by decide) ?_
              refine lv_goto (tgt := 205) hx hb d_Mo_look_188 (by decide) ?_
              refine lv_istore (lv' := [(8, .int 128), (0, .ref mo), (1, .ref q), (2, .int (nI (b0 + p0))), (3, .int (nI (L.length - p0))), (4, .int (nI k)), (6, .int (nI (lk_c L p0 k (k - 1)))), (7, .int (by_z (lk_i L p0 k (k - 1))))]) hx hb d_Mo_look_205 hl (by decide) rfl (fun ls hl => ?_)
              refine lv_iload hx hb d_Mo_look_207 (lv_at hl 7 rfl) ?_
              refine lv_if_eq (tgt := 243) hx hb d_Mo_look_209 (by decide) (fun c_209 => ?_) (fun c_209 => ?_)
              · skip
                refine lv_iinc (v := (nI k) + 1) (lv' := [(4, .int ((nI k) + 1)), (8, .int 128), (0, .ref mo), (1, .ref q), (2, .int (nI (b0 + p0))), (3, .int (nI (L.length - p0))), (6, .int (nI (lk_c L p0 k (k - 1)))), (7, .int (by_z (lk_i L p0 k (k - 1))))]) hx hb d_Mo_look_243 hl (k := 5) rfl rfl (by decide) rfl (fun ls hl => ?_)
                refine lv_goto (tgt := 14) hx hb d_Mo_look_246 (by decide) ?_
                have hso := lk_no (o := (ut_at L p0)) (k := k) (fun c9 hc9 hk9 => absurd (lk_inv hc9 hk9).1 (by rw [by_z_f rfl c_209]; decide))
                rw [hso.1, hso.2] at hP hD
                rw [nI_1] at hl
                exact ih_14 (k + 1) H locs ls ⟨hP.sub [0, 1] rfl, hD.sub [0, 1] (by decide) rfl, hS, lv_sub hl [2, 3, 4, 5, 0] rfl, (by omega), (by omega)⟩ (by dsimp only; omega)
              · skip
                have hlk1 := by_z_t rfl c_209
                have hcb := lk_b3 (k := k) (i := k - 1) hb9 (by omega)
                refine lv_iload hx hb d_Mo_look_212 (lv_at hl 6 rfl) ?_
                refine lv_iload hx hb d_Mo_look_214 (lv_at hl 0 rfl) ?_
                refine lv_icmp_lt (tgt := 243) hx hb d_Mo_look_216 (by decide) (fun c_216 => ?_) (fun c_216 => ?_)
                · skip
                  have f_216 : (lk_c L p0 k (k - 1)) < 128 := (nI_ltI (b := 128) (by omega) (by omega)).mp c_216
                  refine lv_iinc (v := (nI k) + 1) (lv' := [(4, .int ((nI k) + 1)), (8, .int 128), (0, .ref mo), (1, .ref q), (2, .int (nI (b0 + p0))), (3, .int (nI (L.length - p0))), (6, .int (nI (lk_c L p0 k (k - 1)))), (7, .int (by_z (lk_i L p0 k (k - 1))))]) hx hb d_Mo_look_243 hl (k := 5) rfl rfl (by decide) rfl (fun ls hl => ?_)
                  refine lv_goto (tgt := 14) hx hb d_Mo_look_246 (by decide) ?_
                  have hso := lk_no (o := (ut_at L p0)) (k := k) (fun c9 hc9 hk9 => absurd (lk_inv hc9 hk9).2.1 (by rw [show lk_l k = 128 by rw [f_182]; rfl]; omega))
                  rw [hso.1, hso.2] at hP hD
                  rw [nI_1] at hl
                  exact ih_14 (k + 1) H locs ls ⟨hP.sub [0, 1] rfl, hD.sub [0, 1] (by decide) rfl, hS, lv_sub hl [2, 3, 4, 5, 0] rfl, (by omega), (by omega)⟩ (by dsimp only; omega)
                · skip
                  have f_216 : 128 ≤ (lk_c L p0 k (k - 1)) := Nat.le_of_not_lt (fun z => c_216 (nI_lt (b := 128) z (by omega)))
                  have hlk2 : lk_l k ≤ (lk_c L p0 k (k - 1)) := by rw [show lk_l k = 128 by rw [f_182]; rfl]; omega
                  refine lv_iload hx hb d_Mo_look_219 (lv_at hl 6 rfl) ?_
                  refine lv_i2l hx hb d_Mo_look_221 rfl ?_
                  have hPc := hP.sub (ws' := []) [] rfl
                  have hKc := hK.sub (tys' := []) [] rfl
                  refine vp_callSi (W.runS (As := [.long ((nI (lk_c L p0 k (k - 1))).toInt64)]) (rest := []) ⟨hx, hb, hml, hown, hg⟩ (c_Mo_isCode l dC dI ((nI (lk_c L p0 k (k - 1))).toInt64) ) (va_cwS 1 hg (gi_S kw_834 kw_835 kw_9 kw_836) rfl rfl rfl (by decide +kernel) ⟨Nat.le_of_ble_eq_true rfl, Nat.le_of_ble_eq_true rfl⟩) (zz_prJS hPc hKc _) rfl rfl hl.1 rfl (lv_room (Nat.le_of_ble_eq_true rfl)) d_Mo_look_222 ⟨Nat.le_of_ble_eq_true rfl, Nat.le_of_ble_eq_true rfl⟩) (fun r_7 hr_7 => ?_)
                  rw [ut_tl (by omega)] at hr_7
                  refine lv_if_ne (tgt := 231) hx hb d_Mo_look_225 (by decide) (fun c_225 => ?_) (fun c_225 => ?_)
                  · skip
                    have hlk3 := by_z_t hr_7 c_225
                    refine lv_aload_n hx hb d_Mo_look_231 rfl (lv_at hl 1 rfl) ?_
                    refine lv_iload hx hb d_Mo_look_232 (lv_at hl 5 rfl) ?_
                    refine va_put (D := (dC, dI)) (ci := 8) (v := .int (nI k)) (ty := .int) (C := "TextForgeModel") (T := TX8) (N := 19) hx hb hg iwX8 tyX8 tyX8_ok nmX8 hown hK hP hD hS 0 rfl rfl 17 (by decide) (hg _ kw_743) (fun _ h9 => h9) rfl (by decide +kernel) rfl rfl (Nat.le_of_ble_eq_true rfl) d_Mo_look_234 (fun H locs hP hD hS => ?_)
                    have hP : va_P (dC, dI) vwCl [(mo, .inr (8, [.int th, .int fd, .ref rt, .int mn, .ref rk, .ref rv, .ref rw, .ref ro, .int md, .ref rr, .int pt, .ref ra, .long pz, .int kc, .ref rc, .ref rl, .ref rb, .int (nI k), .int (nI (lk_B (ut_at L p0) k))])), (q, .inl (cB, sz, .inl gq))] H := hP
                    have hD : va_D A [(mo, .inr (8, [.int th, .int fd, .ref rt, .int mn, .ref rk, .ref rv, .ref rw, .ref ro, .int md, .ref rr, .int pt, .ref ra, .long pz, .int kc, .ref rc, .ref rl, .ref rb, .int (nI k), .int (nI (lk_B (ut_at L p0) k))])), (q, .inl (cB, sz, .inl gq))] := hD
                    refine lv_aload_n hx hb d_Mo_look_237 rfl (lv_at hl 1 rfl) ?_
                    refine lv_iload hx hb d_Mo_look_238 (lv_at hl 6 rfl) ?_
                    refine va_put (D := (dC, dI)) (ci := 8) (v := .int (nI (lk_c L p0 k (k - 1)))) (ty := .int) (C := "TextForgeModel") (T := TX8) (N := 19) hx hb hg iwX8 tyX8 tyX8_ok nmX8 hown hK hP hD hS 0 rfl rfl 18 (by decide) (hg _ kw_744) (fun _ h9 => h9) rfl (by decide +kernel) rfl rfl (Nat.le_of_ble_eq_true rfl) d_Mo_look_240 (fun H locs hP hD hS => ?_)
                    have hP : va_P (dC, dI) vwCl [(mo, .inr (8, [.int th, .int fd, .ref rt, .int mn, .ref rk, .ref rv, .ref rw, .ref ro, .int md, .ref rr, .int pt, .ref ra, .long pz, .int kc, .ref rc, .ref rl, .ref rb, .int (nI k), .int (nI (lk_c L p0 k (k - 1)))])), (q, .inl (cB, sz, .inl gq))] H := hP
                    have hD : va_D A [(mo, .inr (8, [.int th, .int fd, .ref rt, .int mn, .ref rk, .ref rv, .ref rw, .ref ro, .int md, .ref rr, .int pt, .ref ra, .long pz, .int kc, .ref rc, .ref rl, .ref rb, .int (nI k), .int (nI (lk_c L p0 k (k - 1)))])), (q, .inl (cB, sz, .inl gq))] := hD
                    refine lv_iinc (v := (nI k) + 1) (lv' := [(4, .int ((nI k) + 1)), (8, .int 128), (0, .ref mo), (1, .ref q), (2, .int (nI (b0 + p0))), (3, .int (nI (L.length - p0))), (6, .int (nI (lk_c L p0 k (k - 1)))), (7, .int (by_z (lk_i L p0 k (k - 1))))]) hx hb d_Mo_look_243 hl (k := 5) rfl rfl (by decide) rfl (fun ls hl => ?_)
                    refine lv_goto (tgt := 14) hx hb d_Mo_look_246 (by decide) ?_
                    have hso := lk_so (lk_yes ⟨hk1, by omega⟩ (by omega) hb9 hlk1 hlk2 hlk3)
                    rw [show Value.int (nI k) = Value.int (nI (lk_A (ut_at L p0) (k + 1))) by rw [← hso.1], show Value.int (nI (lk_c L p0 k (k - 1))) = Value.int (nI (lk_B (ut_at L p0) (k + 1))) by rw [← hso.2]] at hP hD
                    rw [nI_1] at hl
                    exact ih_14 (k + 1) H locs ls ⟨hP.sub [0, 1] rfl, hD.sub [0, 1] (by decide) rfl, hS, lv_sub hl [2, 3, 4, 5, 0] rfl, (by omega), (by omega)⟩ (by dsimp only; omega)
                  · skip
                    refine lv_goto (tgt := 243) hx hb d_Mo_look_228 (by decide) ?_
                    refine lv_iinc (v := (nI k) + 1) (lv' := [(4, .int ((nI k) + 1)), (8, .int 128), (0, .ref mo), (1, .ref q), (2, .int (nI (b0 + p0))), (3, .int (nI (L.length - p0))), (6, .int (nI (lk_c L p0 k (k - 1)))), (7, .int (by_z (lk_i L p0 k (k - 1))))]) hx hb d_Mo_look_243 hl (k := 5) rfl rfl (by decide) rfl (fun ls hl => ?_)
                    refine lv_goto (tgt := 14) hx hb d_Mo_look_246 (by decide) ?_
                    have hso := lk_no (o := (ut_at L p0)) (k := k) (fun c9 hc9 hk9 => absurd (lk_inv hc9 hk9).2.2 (by rw [by_z_f hr_7 c_225]; decide))
                    rw [hso.1, hso.2] at hP hD
                    rw [nI_1] at hl
                    exact ih_14 (k + 1) H locs ls ⟨hP.sub [0, 1] rfl, hD.sub [0, 1] (by decide) rfl, hS, lv_sub hl [2, 3, 4, 5, 0] rfl, (by omega), (by omega)⟩ (by dsimp only; omega)
          · skip
            have f_115 : (i0 + 1) < k := Nat.lt_of_not_le (fun z => c_115 (nI_le (a := k) z (by omega)))
            have hbi := hLq (p0 + (i0 + 1)) (by omega)
            refine lv_iload hx hb d_Mo_look_118 (lv_at hl 6 rfl) ?_
            refine lv_if_eq (tgt := 143) hx hb d_Mo_look_120 (by decide) (fun c_120 => ?_) (fun c_120 => ?_)
            · skip
              refine lv_iconst (v := 0) hx hb d_Mo_look_143 (by decide) ?_
              refine lv_topi (fun y_8 ey_8 => ?_)
              have ey_8 : y_8 = (by_z (lk_i L p0 k (i0 + 1)) : Int32) := ey_8.trans (show 0 = by_z (lk_i L p0 k (i0 + 1)) from (by rw [lk_i, by_z_f rfl c_120]; rfl))
              subst ey_8
              refine lv_istore (lv' := [(7, .int (by_z (lk_i L p0 k (i0 + 1)))), (0, .ref mo), (1, .ref q), (2, .int (nI (b0 + p0))), (3, .int (nI (L.length - p0))), (4, .int (nI k)), (6, .int (nI (lk_c L p0 k i0))), (8, .int (nI (i0 + 1)))]) hx hb d_Mo_look_144 hl (by decide) rfl (fun ls hl => ?_)
              refine lv_iload hx hb d_Mo_look_146 (lv_at hl 6 rfl) ?_
              refine lv_bipush (v := 6) hx hb d_Mo_look_148 (by decide) ?_
              refine lv_ishl hx hb d_Mo_look_150 ?_
              refine lv_aload_n hx hb d_Mo_look_151 rfl (lv_at hl 2 rfl) ?_
              refine lv_iload_n hx hb d_Mo_look_152 rfl (lv_at hl 3 rfl) ?_
              refine lv_iload hx hb d_Mo_look_153 (lv_at hl 7 rfl) ?_
              refine lv_iadd hx hb d_Mo_look_155 ?_
              refine lv_topi (fun y_9 ey_9 => ?_)
              have ey_9 : y_9 = (nI (b0 + (p0 + (i0 + 1))) : Int32) := ey_9.trans (show ((nI (b0 + p0)) + (nI (i0 + 1))) = nI (b0 + (p0 + (i0 + 1))) from (by rw [nI_add, Nat.add_assoc]))
              subst ey_9
              refine va_bald hx hb hK hP 1 0 rfl rfl (vp_in_nI (by omega) (by omega)) d_Mo_look_156 ?_
              refine lv_topi (fun y_10 ey_10 => ?_)
              have ey_10 : y_10 = (sb_b (L.getD (p0 + (i0 + 1)) 0) : Int32) := ey_10.trans (show (gq (nI (b0 + (p0 + (i0 + 1)))).toNatClampNeg) = sb_b (L.getD (p0 + (i0 + 1)) 0) from (by rw [nI_clamp (show b0 + (p0 + (i0 + 1)) < 2 ^ 31 by omega)]; exact hbi.2))
              subst ey_10
              refine lv_bipush (v := 63) hx hb d_Mo_look_157 (by decide) ?_
              refine lv_iand hx hb d_Mo_look_159 ?_
              refine lv_topi (fun y_11 ey_11 => ?_)
              have ey_11 : y_11 = (nI (L.getD (p0 + (i0 + 1)) 0 % 64) : Int32) := ey_11.trans (show ((sb_b (L.getD (p0 + (i0 + 1)) 0)) &&& 63) = nI (L.getD (p0 + (i0 + 1)) 0 % 64) from (sb_63 _ hbi.1))
              subst ey_11
              refine lv_ior hx hb d_Mo_look_160 ?_
              refine lv_topi (fun y_12 ey_12 => ?_)
              have ey_12 : y_12 = (nI (lk_c L p0 k (i0 + 1)) : Int32) := ey_12.trans (show (((nI (lk_c L p0 k i0)) <<< ((6 : Int32) &&& 31)) ||| (nI (L.getD (p0 + (i0 + 1)) 0 % 64))) = nI (lk_c L p0 k (i0 + 1)) from (lk_sh (lk_b2 hb9 (by omega)) (Nat.mod_lt _ (by decide))))
              subst ey_12
              refine lv_istore (lv' := [(6, .int (nI (lk_c L p0 k (i0 + 1)))), (7, .int (by_z (lk_i L p0 k (i0 + 1)))), (0, .ref mo), (1, .ref q), (2, .int (nI (b0 + p0))), (3, .int (nI (L.length - p0))), (4, .int (nI k)), (8, .int (nI (i0 + 1)))]) hx hb d_Mo_look_161 hl (by decide) rfl (fun ls hl => ?_)
              refine lv_iinc (v := (nI (i0 + 1)) + 1) (lv' := [(8, .int ((nI (i0 + 1)) + 1)), (6, .int (nI (lk_c L p0 k (i0 + 1)))), (7, .int (by_z (lk_i L p0 k (i0 + 1)))), (0, .ref mo), (1, .ref q), (2, .int (nI (b0 + p0))), (3, .int (nI (L.length - p0))), (4, .int (nI k))]) hx hb d_Mo_look_163 hl (k := 7) rfl rfl (by decide) rfl (fun ls hl => ?_)
              refine lv_goto (tgt := 111) hx hb d_Mo_look_166 (by decide) ?_
              rw [nI_1] at hl
              exact ih_111 (i0 + 1) H locs ls ⟨hP.sub [0, 1] rfl, hD.sub [0, 1] (by decide) rfl, hS, lv_sub hl [3, 4, 5, 6, 7, 1, 2, 0] rfl, f_115⟩ (by dsimp only; omega)
            · skip
              refine lv_aload_n hx hb d_Mo_look_123 rfl (lv_at hl 1 rfl) ?_
              refine lv_iload_n hx hb d_Mo_look_124 rfl (lv_at hl 2 rfl) ?_
              refine lv_iload hx hb d_Mo_look_125 (lv_at hl 7 rfl) ?_
              refine lv_iadd hx hb d_Mo_look_127 ?_
              refine lv_topi (fun y_13 ey_13 => ?_)
              have ey_13 : y_13 = (nI (b0 + (p0 + (i0 + 1))) : Int32) := ey_13.trans (show ((nI (b0 + p0)) + (nI (i0 + 1))) = nI (b0 + (p0 + (i0 + 1))) from (by rw [nI_add, Nat.add_assoc]))
              subst ey_13
              refine va_bald hx hb hK hP 1 0 rfl rfl (vp_in_nI (by omega) (by omega)) d_Mo_look_128 ?_
              refine lv_topi (fun y_14 ey_14 => ?_)
              have ey_14 : y_14 = (sb_b (L.getD (p0 + (i0 + 1)) 0) : Int32) := ey_14.trans (show (gq (nI (b0 + (p0 + (i0 + 1)))).toNatClampNeg) = sb_b (L.getD (p0 + (i0 + 1)) 0) from (by rw [nI_clamp (show b0 + (p0 + (i0 + 1)) < 2 ^ 31 by omega)]; exact hbi.2))
              subst ey_14
              refine lv_sipush (v := 192) hx hb d_Mo_look_129 (by decide) ?_
              refine lv_iand hx hb d_Mo_look_132 ?_
              refine lv_sipush (v := 128) hx hb d_Mo_look_133 (by decide) ?_
              refine lv_icmp_ne (tgt := 143) hx hb d_Mo_look_136 (by decide) (fun c_136 => ?_) (fun c_136 => ?_)
              · skip
                refine lv_iconst (v := 0) hx hb d_Mo_look_143 (by decide) ?_
                refine lv_topi (fun y_15 ey_15 => ?_)
                have ey_15 : y_15 = (by_z (lk_i L p0 k (i0 + 1)) : Int32) := ey_15.trans (show 0 = by_z (lk_i L p0 k (i0 + 1)) from (by rw [lk_i, by_z_t rfl c_120, decide_eq_false (fun z => c_136 ((sb_192 _ hbi.1).mpr z))]; rfl))
                subst ey_15
                refine lv_istore (lv' := [(7, .int (by_z (lk_i L p0 k (i0 + 1)))), (0, .ref mo), (1, .ref q), (2, .int (nI (b0 + p0))), (3, .int (nI (L.length - p0))), (4, .int (nI k)), (6, .int (nI (lk_c L p0 k i0))), (8, .int (nI (i0 + 1)))]) hx hb d_Mo_look_144 hl (by decide) rfl (fun ls hl => ?_)
                refine lv_iload hx hb d_Mo_look_146 (lv_at hl 6 rfl) ?_
                refine lv_bipush (v := 6) hx hb d_Mo_look_148 (by decide) ?_
                refine lv_ishl hx hb d_Mo_look_150 ?_
                refine lv_aload_n hx hb d_Mo_look_151 rfl (lv_at hl 2 rfl) ?_
                refine lv_iload_n hx hb d_Mo_look_152 rfl (lv_at hl 3 rfl) ?_
                refine lv_iload hx hb d_Mo_look_153 (lv_at hl 7 rfl) ?_
                refine lv_iadd hx hb d_Mo_look_155 ?_
                refine lv_topi (fun y_16 ey_16 => ?_)
                have ey_16 : y_16 = (nI (b0 + (p0 + (i0 + 1))) : Int32) := ey_16.trans (show ((nI (b0 + p0)) + (nI (i0 + 1))) = nI (b0 + (p0 + (i0 + 1))) from (by rw [nI_add, Nat.add_assoc]))
                subst ey_16
                refine va_bald hx hb hK hP 1 0 rfl rfl (vp_in_nI (by omega) (by omega)) d_Mo_look_156 ?_
                refine lv_topi (fun y_17 ey_17 => ?_)
                have ey_17 : y_17 = (sb_b (L.getD (p0 + (i0 + 1)) 0) : Int32) := ey_17.trans (show (gq (nI (b0 + (p0 + (i0 + 1)))).toNatClampNeg) = sb_b (L.getD (p0 + (i0 + 1)) 0) from (by rw [nI_clamp (show b0 + (p0 + (i0 + 1)) < 2 ^ 31 by omega)]; exact hbi.2))
                subst ey_17
                refine lv_bipush (v := 63) hx hb d_Mo_look_157 (by decide) ?_
                refine lv_iand hx hb d_Mo_look_159 ?_
                refine lv_topi (fun y_18 ey_18 => ?_)
                have ey_18 : y_18 = (nI (L.getD (p0 + (i0 + 1)) 0 % 64) : Int32) := ey_18.trans (show ((sb_b (L.getD (p0 + (i0 + 1)) 0)) &&& 63) = nI (L.getD (p0 + (i0 + 1)) 0 % 64) from (sb_63 _ hbi.1))
                subst ey_18
                refine lv_ior hx hb d_Mo_look_160 ?_
                refine lv_topi (fun y_19 ey_19 => ?_)
                have ey_19 : y_19 = (nI (lk_c L p0 k (i0 + 1)) : Int32) := ey_19.trans (show (((nI (lk_c L p0 k i0)) <<< ((6 : Int32) &&& 31)) ||| (nI (L.getD (p0 + (i0 + 1)) 0 % 64))) = nI (lk_c L p0 k (i0 + 1)) from (lk_sh (lk_b2 hb9 (by omega)) (Nat.mod_lt _ (by decide))))
                subst ey_19
                refine lv_istore (lv' := [(6, .int (nI (lk_c L p0 k (i0 + 1)))), (7, .int (by_z (lk_i L p0 k (i0 + 1)))), (0, .ref mo), (1, .ref q), (2, .int (nI (b0 + p0))), (3, .int (nI (L.length - p0))), (4, .int (nI k)), (8, .int (nI (i0 + 1)))]) hx hb d_Mo_look_161 hl (by decide) rfl (fun ls hl => ?_)
                refine lv_iinc (v := (nI (i0 + 1)) + 1) (lv' := [(8, .int ((nI (i0 + 1)) + 1)), (6, .int (nI (lk_c L p0 k (i0 + 1)))), (7, .int (by_z (lk_i L p0 k (i0 + 1)))), (0, .ref mo), (1, .ref q), (2, .int (nI (b0 + p0))), (3, .int (nI (L.length - p0))), (4, .int (nI k))]) hx hb d_Mo_look_163 hl (k := 7) rfl rfl (by decide) rfl (fun ls hl => ?_)
                refine lv_goto (tgt := 111) hx hb d_Mo_look_166 (by decide) ?_
                rw [nI_1] at hl
                exact ih_111 (i0 + 1) H locs ls ⟨hP.sub [0, 1] rfl, hD.sub [0, 1] (by decide) rfl, hS, lv_sub hl [3, 4, 5, 6, 7, 1, 2, 0] rfl, f_115⟩ (by dsimp only; omega)
              · skip
                refine lv_iconst (v := 1) hx hb d_Mo_look_139 (by decide) ?_
                refine lv_goto (tgt := 144) hx hb d_Mo_look_140 (by decide) ?_
                refine lv_topi (fun y_20 ey_20 => ?_)
                have ey_20 : y_20 = (by_z (lk_i L p0 k (i0 + 1)) : Int32) := ey_20.trans (show 1 = by_z (lk_i L p0 k (i0 + 1)) from (by rw [lk_i, by_z_t rfl c_120, decide_eq_true ((sb_192 _ hbi.1).mp c_136)]; rfl))
                subst ey_20
                refine lv_istore (lv' := [(7, .int (by_z (lk_i L p0 k (i0 + 1)))), (0, .ref mo), (1, .ref q), (2, .int (nI (b0 + p0))), (3, .int (nI (L.length - p0))), (4, .int (nI k)), (6, .int (nI (lk_c L p0 k i0))), (8, .int (nI (i0 + 1)))]) hx hb d_Mo_look_144 hl (by decide) rfl (fun ls hl => ?_)
                refine lv_iload hx hb d_Mo_look_146 (lv_at hl 6 rfl) ?_
                refine lv_bipush (v := 6) hx hb d_Mo_look_148 (by decide) ?_
                refine lv_ishl hx hb d_Mo_look_150 ?_
                refine lv_aload_n hx hb d_Mo_look_151 rfl (lv_at hl 2 rfl) ?_
                refine lv_iload_n hx hb d_Mo_look_152 rfl (lv_at hl 3 rfl) ?_
                refine lv_iload hx hb d_Mo_look_153 (lv_at hl 7 rfl) ?_
                refine lv_iadd hx hb d_Mo_look_155 ?_
                refine lv_topi (fun y_21 ey_21 => ?_)
                have ey_21 : y_21 = (nI (b0 + (p0 + (i0 + 1))) : Int32) := ey_21.trans (show ((nI (b0 + p0)) + (nI (i0 + 1))) = nI (b0 + (p0 + (i0 + 1))) from (by rw [nI_add, Nat.add_assoc]))
                subst ey_21
                refine va_bald hx hb hK hP 1 0 rfl rfl (vp_in_nI (by omega) (by omega)) d_Mo_look_156 ?_
                refine lv_topi (fun y_22 ey_22 => ?_)
                have ey_22 : y_22 = (sb_b (L.getD (p0 + (i0 + 1)) 0) : Int32) := ey_22.trans (show (gq (nI (b0 + (p0 + (i0 + 1)))).toNatClampNeg) = sb_b (L.getD (p0 + (i0 + 1)) 0) from (by rw [nI_clamp (show b0 + (p0 + (i0 + 1)) < 2 ^ 31 by omega)]; exact hbi.2))
                subst ey_22
                refine lv_bipush (v := 63) hx hb d_Mo_look_157 (by decide) ?_
                refine lv_iand hx hb d_Mo_look_159 ?_
                refine lv_topi (fun y_23 ey_23 => ?_)
                have ey_23 : y_23 = (nI (L.getD (p0 + (i0 + 1)) 0 % 64) : Int32) := ey_23.trans (show ((sb_b (L.getD (p0 + (i0 + 1)) 0)) &&& 63) = nI (L.getD (p0 + (i0 + 1)) 0 % 64) from (sb_63 _ hbi.1))
                subst ey_23
                refine lv_ior hx hb d_Mo_look_160 ?_
                refine lv_topi (fun y_24 ey_24 => ?_)
                have ey_24 : y_24 = (nI (lk_c L p0 k (i0 + 1)) : Int32) := ey_24.trans (show (((nI (lk_c L p0 k i0)) <<< ((6 : Int32) &&& 31)) ||| (nI (L.getD (p0 + (i0 + 1)) 0 % 64))) = nI (lk_c L p0 k (i0 + 1)) from (lk_sh (lk_b2 hb9 (by omega)) (Nat.mod_lt _ (by decide))))
                subst ey_24
                refine lv_istore (lv' := [(6, .int (nI (lk_c L p0 k (i0 + 1)))), (7, .int (by_z (lk_i L p0 k (i0 + 1)))), (0, .ref mo), (1, .ref q), (2, .int (nI (b0 + p0))), (3, .int (nI (L.length - p0))), (4, .int (nI k)), (8, .int (nI (i0 + 1)))]) hx hb d_Mo_look_161 hl (by decide) rfl (fun ls hl => ?_)
                refine lv_iinc (v := (nI (i0 + 1)) + 1) (lv' := [(8, .int ((nI (i0 + 1)) + 1)), (6, .int (nI (lk_c L p0 k (i0 + 1)))), (7, .int (by_z (lk_i L p0 k (i0 + 1)))), (0, .ref mo), (1, .ref q), (2, .int (nI (b0 + p0))), (3, .int (nI (L.length - p0))), (4, .int (nI k))]) hx hb d_Mo_look_163 hl (k := 7) rfl rfl (by decide) rfl (fun ls hl => ?_)
                refine lv_goto (tgt := 111) hx hb d_Mo_look_166 (by decide) ?_
                rw [nI_1] at hl
                exact ih_111 (i0 + 1) H locs ls ⟨hP.sub [0, 1] rfl, hD.sub [0, 1] (by decide) rfl, hS, lv_sub hl [3, 4, 5, 6, 7, 1, 2, 0] rfl, f_115⟩ (by dsimp only; omega)
        · skip
          refine lv_iconst (v := 1) hx hb d_Mo_look_101 (by decide) ?_
          refine lv_goto (tgt := 106) hx hb d_Mo_look_102 (by decide) ?_
          refine lv_topi (fun y_25 ey_25 => ?_)
          have ey_25 : y_25 = (by_z (lk_i L p0 k 0) : Int32) := ey_25.trans (show 1 = by_z (lk_i L p0 k 0) from (by rw [lk_i, if_neg f_38, decide_eq_true ((lk_j hb9 ⟨hk1, f_17⟩ f_38).mp c_98)]; rfl))
          subst ey_25
          refine lv_istore (lv' := [(7, .int (by_z (lk_i L p0 k 0))), (6, .int (nI (lk_c L p0 k 0))), (5, .int (nI (L.getD p0 0))), (0, .ref mo), (1, .ref q), (2, .int (nI (b0 + p0))), (3, .int (nI (L.length - p0))), (4, .int (nI k))]) hx hb d_Mo_look_106 hl (by decide) rfl (fun ls hl => ?_)
          refine lv_iconst (v := 1) hx hb d_Mo_look_108 (by decide) ?_
          refine lv_istore (lv' := [(8, .int 1), (7, .int (by_z (lk_i L p0 k 0))), (6, .int (nI (lk_c L p0 k 0))), (5, .int (nI (L.getD p0 0))), (0, .ref mo), (1, .ref q), (2, .int (nI (b0 + p0))), (3, .int (nI (L.length - p0))), (4, .int (nI k))]) hx hb d_Mo_look_109 hl (by decide) rfl (fun ls hl => ?_)
          refine zz_loop (fun (x : Nat) H locs ls => match x with | i0 => va_P (dC, dI) vwCl [(mo, .inr (8, [.int th, .int fd, .ref rt, .int mn, .ref rk, .ref rv, .ref rw, .ref ro, .int md, .ref rr, .int pt, .ref ra, .long pz, .int kc, .ref rc, .ref rl, .ref rb, .int (nI (lk_A (ut_at L p0) k)), .int (nI (lk_B (ut_at L p0) k))])), (q, .inl (cB, sz, .inl gq))] H ∧ va_D A [(mo, .inr (8, [.int th, .int fd, .ref rt, .int mn, .ref rk, .ref rv, .ref rw, .ref ro, .int md, .ref rr, .int pt, .ref ra, .long pz, .int kc, .ref rc, .ref rl, .ref rb, .int (nI (lk_A (ut_at L p0) k)), .int (nI (lk_B (ut_at L p0) k))])), (q, .inl (cB, sz, .inl gq))] ∧ va_S A s.heap H locs ∧ lv_has ls 9 [(0, .ref mo), (1, .ref q), (2, .int (nI (b0 + p0))), (3, .int (nI (L.length - p0))), (4, .int (nI k)), (6, .int (nI (lk_c L p0 k i0))), (7, .int (by_z (lk_i L p0 k i0))), (8, .int (nI (i0 + 1)))] ∧ i0 + 1 ≤ k) (fun x => match x with | i0 => k - i0) ?_ 0 ⟨hP.sub [0, 1] rfl, hD.sub [0, 1] (by decide) rfl, hS, lv_sub hl [4, 5, 6, 7, 8, 2, 1, 0] rfl, hk1⟩
          intro x H locs ls hI ih_111
          obtain ⟨i0, rfl⟩ : ∃ z, z = x := ⟨_, rfl⟩
          try dsimp only at hI
          obtain ⟨hP, hD, hS, hl, hi0⟩ := hI
          refine lv_iload hx hb d_Mo_look_111 (lv_at hl 7 rfl) ?_
          refine lv_iload hx hb d_Mo_look_113 (lv_at hl 4 rfl) ?_
          refine lv_icmp_ge (tgt := 169) hx hb d_Mo_look_115 (by decide) (fun c_115 => ?_) (fun c_115 => ?_)
          · skip
            have f_115 : k ≤ (i0 + 1) := Nat.le_of_not_lt (fun z => nI_ge (b := k) z (by omega) c_115)
            have hie : i0 = k - 1 := by omega
            rw [hie] at hl
            refine lv_iload hx hb d_Mo_look_169 (lv_at hl 4 rfl) ?_
            refine lv_iconst (v := 1) hx hb d_Mo_look_171 (by decide) ?_
            refine lv_icmp_ne (tgt := 179) hx hb d_Mo_look_172 (by decide) (fun _ => ?_) (fun c9 => by first | exact absurd c9 c_38 | exact absurd c_38 c9)
            refine lv_iload hx hb d_Mo_look_179 (lv_at hl 4 rfl) ?_
            refine lv_iconst (v := 2) hx hb d_Mo_look_181 (by decide) ?_
            refine lv_icmp_ne (tgt := 191) hx hb d_Mo_look_182 (by decide) (fun c_182 => ?_) (fun c_182 => ?_)
            · skip
              have f_182 : k ≠ 2 := nI_ne (b := 2) c_182
              refine lv_iload hx hb d_Mo_look_191 (lv_at hl 4 rfl) ?_
              refine lv_iconst (v := 3) hx hb d_Mo_look_193 (by decide) ?_
              refine lv_icmp_ne (tgt := 203) hx hb d_Mo_look_194 (by decide) (fun c_194 => ?_) (fun c_194 => ?_)
              · skip
                have f_194 : k ≠ 3 := nI_ne (b := 3) c_194
                refine W.ldc (v := 65536) hx hb hown (hg _ kw_725) rfl d_Mo_look_203 ?_
                refine W.eq (g2 := F0 m 205 ls [.int 65536]) rfl ?_
                refine lv_istore (lv' := [(8, .int 65536), (0, .ref mo), (1, .ref q), (2, .int (nI (b0 + p0))), (3, .int (nI (L.length - p0))), (4, .int (nI k)), (6, .int (nI (lk_c L p0 k (k - 1)))), (7, .int (by_z (lk_i L p0 k (k - 1))))]) hx hb d_Mo_look_205 hl (by decide) rfl (fun ls hl => ?_)
                refine lv_iload hx hb d_Mo_look_207 (lv_at hl 7 rfl) ?_
                refine lv_if_eq (tgt := 243) hx hb d_Mo_look_209 (by decide) (fun c_209 => ?_) (fun c_209 => ?_)
                · skip
                  refine lv_iinc (v := (nI k) + 1) (lv' := [(4, .int ((nI k) + 1)), (8, .int 65536), (0, .ref mo), (1, .ref q), (2, .int (nI (b0 + p0))), (3, .int (nI (L.length - p0))), (6, .int (nI (lk_c L p0 k (k - 1)))), (7, .int (by_z (lk_i L p0 k (k - 1))))]) hx hb d_Mo_look_243 hl (k := 5) rfl rfl (by decide) rfl (fun ls hl => ?_)
                  refine lv_goto (tgt := 14) hx hb d_Mo_look_246 (by decide) ?_
                  have hso := lk_no (o := (ut_at L p0)) (k := k) (fun c9 hc9 hk9 => absurd (lk_inv hc9 hk9).1 (by rw [by_z_f rfl c_209]; decide))
                  rw [hso.1, hso.2] at hP hD
                  rw [nI_1] at hl
                  exact ih_14 (k + 1) H locs ls ⟨hP.sub [0, 1] rfl, hD.sub [0, 1] (by decide) rfl, hS, lv_sub hl [2, 3, 4, 5, 0] rfl, (by omega), (by omega)⟩ (by dsimp only; omega)
                · skip
                  have hlk1 := by_z_t rfl c_209
                  have hcb := lk_b3 (k := k) (i := k - 1) hb9 (by omega)
                  refine lv_iload hx hb d_Mo_look_212 (lv_at hl 6 rfl) ?_
                  refine lv_iload hx hb d_Mo_look_214 (lv_at hl 0 rfl) ?_
                  refine lv_icmp_lt (tgt := 243) hx hb d_Mo_look_216 (by decide) (fun c_216 => ?_) (fun c_216 => ?_)
                  · skip
                    have f_216 : (lk_c L p0 k (k - 1)) < 65536 := (nI_ltI (b := 65536) (by omega) (by omega)).mp c_216
                    refine lv_iinc (v := (nI k) + 1) (lv' := [(4, .int ((nI k) + 1)), (8, .int 65536), (0, .ref mo), (1, .ref q), (2, .int (nI (b0 + p0))), (3, .int (nI (L.length - p0))), (6, .int (nI (lk_c L p0 k (k - 1)))), (7, .int (by_z (lk_i L p0 k (k - 1))))]) hx hb d_Mo_look_243 hl (k := 5) rfl rfl (by decide) rfl (fun ls hl => ?_)
                    refine lv_goto (tgt := 14) hx hb d_Mo_look_246 (by decide) ?_
                    have hso := lk_no (o := (ut_at L p0)) (k := k) (fun c9 hc9 hk9 => absurd (lk_inv hc9 hk9).2.1 (by rw [show lk_l k = 65536 by unfold lk_l; rw [if_neg f_38, if_neg f_182, if_neg f_194]]; omega))
                    rw [hso.1, hso.2] at hP hD
                    rw [nI_1] at hl
                    exact ih_14 (k + 1) H locs ls ⟨hP.sub [0, 1] rfl, hD.sub [0, 1] (by decide) rfl, hS, lv_sub hl [2, 3, 4, 5, 0] rfl, (by omega), (by omega)⟩ (by dsimp only; omega)
                  · skip
                    have f_216 : 65536 ≤ (lk_c L p0 k (k - 1)) := Nat.le_of_not_lt (fun z => c_216 (nI_lt (b := 65536) z (by omega)))
                    have hlk2 : lk_l k ≤ (lk_c L p0 k (k - 1)) := by rw [show lk_l k = 65536 by unfold lk_l; rw [if_neg f_38, if_neg f_182, if_neg f_194]]; omega
                    refine lv_iload hx hb d_Mo_look_219 (lv_at hl 6 rfl) ?_
                    refine lv_i2l hx hb d_Mo_look_221 rfl ?_
                    have hPc := hP.sub (ws' := []) [] rfl
                    have hKc := hK.sub (tys' := []) [] rfl
                    refine vp_callSi (W.runS (As := [.long ((nI (lk_c L p0 k (k - 1))).toInt64)]) (rest := []) ⟨hx, hb, hml, hown, hg⟩ (c_Mo_isCode l dC dI ((nI (lk_c L p0 k (k - 1))).toInt64) ) (va_cwS 1 hg (gi_S kw_834 kw_835 kw_9 kw_836) rfl rfl rfl (by decide +kernel) ⟨Nat.le_of_ble_eq_true rfl, Nat.le_of_ble_eq_true rfl⟩) (zz_prJS hPc hKc _) rfl rfl hl.1 rfl (lv_room (Nat.le_of_ble_eq_true rfl)) d_Mo_look_222 ⟨Nat.le_of_ble_eq_true rfl, Nat.le_of_ble_eq_true rfl⟩) (fun r_26 hr_26 => ?_)
                    rw [ut_tl (by omega)] at hr_26
                    refine lv_if_ne (tgt := 231) hx hb d_Mo_look_225 (by decide) (fun c_225 => ?_) (fun c_225 => ?_)
                    · skip
                      have hlk3 := by_z_t hr_26 c_225
                      refine lv_aload_n hx hb d_Mo_look_231 rfl (lv_at hl 1 rfl) ?_
                      refine lv_iload hx hb d_Mo_look_232 (lv_at hl 5 rfl) ?_
                      refine va_put (D := (dC, dI)) (ci := 8) (v := .int (nI k)) (ty := .int) (C := "TextForgeModel") (T := TX8) (N := 19) hx hb hg iwX8 tyX8 tyX8_ok nmX8 hown hK hP hD hS 0 rfl rfl 17 (by decide) (hg _ kw_743) (fun _ h9 => h9) rfl (by decide +kernel) rfl rfl (Nat.le_of_ble_eq_true rfl) d_Mo_look_234 (fun H locs hP hD hS => ?_)
                      have hP : va_P (dC, dI) vwCl [(mo, .inr (8, [.int th, .int fd, .ref rt, .int mn, .ref rk, .ref rv, .ref rw, .ref ro, .int md, .ref rr, .int pt, .ref ra, .long pz, .int kc, .ref rc, .ref rl, .ref rb, .int (nI k), .int (nI (lk_B (ut_at L p0) k))])), (q, .inl (cB, sz, .inl gq))] H := hP
                      have hD : va_D A [(mo, .inr (8, [.int th, .int fd, .ref rt, .int mn, .ref rk, .ref rv, .ref rw, .ref ro, .int md, .ref rr, .int pt, .ref ra, .long pz, .int kc, .ref rc, .ref rl, .ref rb, .int (nI k), .int (nI (lk_B (ut_at L p0) k))])), (q, .inl (cB, sz, .inl gq))] := hD
                      refine lv_aload_n hx hb d_Mo_look_237 rfl (lv_at hl 1 rfl) ?_
                      refine lv_iload hx hb d_Mo_look_238 (lv_at hl 6 rfl) ?_
                      refine va_put (D := (dC, dI)) (ci := 8) (v := .int (nI (lk_c L p0 k (k - 1)))) (ty := .int) (C := "TextForgeModel") (T := TX8) (N := 19) hx hb hg iwX8 tyX8 tyX8_ok nmX8 hown hK hP hD hS 0 rfl rfl 18 (by decide) (hg _ kw_744) (fun _ h9 => h9) rfl (by decide +kernel) rfl rfl (Nat.le_of_ble_eq_true rfl) d_Mo_look_240 (fun H locs hP hD hS => ?_)
                      have hP : va_P (dC, dI) vwCl [(mo, .inr (8, [.int th, .int fd, .ref rt, .int mn, .ref rk, .ref rv, .ref rw, .ref ro, .int md, .ref rr, .int pt, .ref ra, .long pz, .int kc, .ref rc, .ref rl, .ref rb, .int (nI k), .int (nI (lk_c L p0 k (k - 1)))])), (q, .inl (cB, sz, .inl gq))] H := hP
                      have hD : va_D A [(mo, .inr (8, [.int th, .int fd, .ref rt, .int mn, .ref rk, .ref rv, .ref rw, .ref ro, .int md, .ref rr, .int pt, .ref ra, .long pz, .int kc, .ref rc, .ref rl, .ref rb, .int (nI k), .int (nI (lk_c L p0 k (k - 1)))])), (q, .inl (cB, sz, .inl gq))] := hD
                      refine lv_iinc (v := (nI k) + 1) (lv' := [(4, .int ((nI k) + 1)), (8, .int 65536), (0, .ref mo), (1, .ref q), (2, .int (nI (b0 + p0))), (3, .int (nI (L.length - p0))), (6, .int (nI (lk_c L p0 k (k - 1)))), (7, .int (by_z (lk_i L p0 k (k - 1))))]) hx hb d_Mo_look_243 hl (k := 5) rfl rfl (by decide) rfl (fun ls hl => ?_)
                      refine lv_goto (tgt := 14) hx hb d_Mo_look_246 (by decide) ?_
                      have hso := lk_so (lk_yes ⟨hk1, by omega⟩ (by omega) hb9 hlk1 hlk2 hlk3)
                      rw [show Value.int (nI k) = Value.int (nI (lk_A (ut_at L p0) (k + 1))) by rw [← hso.1], show Value.int (nI (lk_c L p0 k (k - 1))) = Value.int (nI (lk_B (ut_at L p0) (k + 1))) by rw [← hso.2]] at hP hD
                      rw [nI_1] at hl
                      exact ih_14 (k + 1) H locs ls ⟨hP.sub [0, 1] rfl, hD.sub [0, 1] (by decide) rfl, hS, lv_sub hl [2, 3, 4, 5, 0] rfl, (by omega), (by omega)⟩ (by dsimp only; omega)
                    · skip
                      refine lv_goto (tgt := 243) hx hb d_Mo_look_228 (by decide) ?_
                      refine lv_iinc (v := (nI k) + 1) (lv' := [(4, .int ((nI k) + 1)), (8, .int 65536), (0, .ref mo), (1, .ref q), (2, .int (nI (b0 + p0))), (3, .int (nI (L.length - p0))), (6, .int (nI (lk_c L p0 k (k - 1)))), (7, .int (by_z (lk_i L p0 k (k - 1))))]) hx hb d_Mo_look_243 hl (k := 5) rfl rfl (by decide) rfl (fun ls hl => ?_)
                      refine lv_goto (tgt := 14) hx hb d_Mo_look_246 (by decide) ?_
                      have hso := lk_no (o := (ut_at L p0)) (k := k) (fun c9 hc9 hk9 => absurd (lk_inv hc9 hk9).2.2 (by rw [by_z_f hr_26 c_225]; decide))
                      rw [hso.1, hso.2] at hP hD
                      rw [nI_1] at hl
                      exact ih_14 (k + 1) H locs ls ⟨hP.sub [0, 1] rfl, hD.sub [0, 1] (by decide) rfl, hS, lv_sub hl [2, 3, 4, 5, 0] rfl, (by omega), (by omega)⟩ (by dsimp only; omega)
              · skip
                have f_194 : k = 3 := nI_e1 (b := 3) c_194 (by omega) (by omega)
                refine lv_sipush (v := 2048) hx hb d_Mo_look_197 (by decide) ?_
                refine lv_goto (tgt := 205) hx hb d_Mo_look_200 (by decide) ?_
                refine lv_istore (lv' := [(8, .int 2048), (0, .ref mo), (1, .ref q), (2, .int (nI (b0 + p0))), (3, .int (nI (L.length - p0))), (4, .int (nI k)), (6, .int (nI (lk_c L p0 k (k - 1)))), (7, .int (by_z (lk_i L p0 k (k - 1))))]) hx hb d_Mo_look_205 hl (by decide) rfl (fun ls hl => ?_)
                refine lv_iload hx hb d_Mo_look_207 (lv_at hl 7 rfl) ?_
                refine lv_if_eq (tgt := 243) hx hb d_Mo_look_209 (by decide) (fun c_209 => ?_) (fun c_209 => ?_)
                · skip
                  refine lv_iinc (v := (nI k) + 1) (lv' := [(4, .int ((nI k) + 1)), (8, .int 2048), (0, .ref mo), (1, .ref q), (2, .int (nI (b0 + p0))), (3, .int (nI (L.length - p0))), (6, .int (nI (lk_c L p0 k (k - 1)))), (7, .int (by_z (lk_i L p0 k (k - 1))))]) hx hb d_Mo_look_243 hl (k := 5) rfl rfl (by decide) rfl (fun ls hl => ?_)
                  refine lv_goto (tgt := 14) hx hb d_Mo_look_246 (by decide) ?_
                  have hso := lk_no (o := (ut_at L p0)) (k := k) (fun c9 hc9 hk9 => absurd (lk_inv hc9 hk9).1 (by rw [by_z_f rfl c_209]; decide))
                  rw [hso.1, hso.2] at hP hD
                  rw [nI_1] at hl
                  exact ih_14 (k + 1) H locs ls ⟨hP.sub [0, 1] rfl, hD.sub [0, 1] (by decide) rfl, hS, lv_sub hl [2, 3, 4, 5, 0] rfl, (by omega), (by omega)⟩ (by dsimp only; omega)
                · skip
                  have hlk1 := by_z_t rfl c_209
                  have hcb := lk_b3 (k := k) (i := k - 1) hb9 (by omega)
                  refine lv_iload hx hb d_Mo_look_212 (lv_at hl 6 rfl) ?_
                  refine lv_iload hx hb d_Mo_look_214 (lv_at hl 0 rfl) ?_
                  refine lv_icmp_lt (tgt := 243) hx hb d_Mo_look_216 (by decide) (fun c_216 => ?_) (fun c_216 => ?_)
                  · skip
                    have f_216 : (lk_c L p0 k (k - 1)) < 2048 := (nI_ltI (b := 2048) (by omega) (by omega)).mp c_216
                    refine lv_iinc (v := (nI k) + 1) (lv' := [(4, .int ((nI k) + 1)), (8, .int 2048), (0, .ref mo), (1, .ref q), (2, .int (nI (b0 + p0))), (3, .int (nI (L.length - p0))), (6, .int (nI (lk_c L p0 k (k - 1)))), (7, .int (by_z (lk_i L p0 k (k - 1))))]) hx hb d_Mo_look_243 hl (k := 5) rfl rfl (by decide) rfl (fun ls hl => ?_)
                    refine lv_goto (tgt := 14) hx hb d_Mo_look_246 (by decide) ?_
                    have hso := lk_no (o := (ut_at L p0)) (k := k) (fun c9 hc9 hk9 => absurd (lk_inv hc9 hk9).2.1 (by rw [show lk_l k = 2048 by rw [f_194]; rfl]; omega))
                    rw [hso.1, hso.2] at hP hD
                    rw [nI_1] at hl
                    exact ih_14 (k + 1) H locs ls ⟨hP.sub [0, 1] rfl, hD.sub [0, 1] (by decide) rfl, hS, lv_sub hl [2, 3, 4, 5, 0] rfl, (by omega), (by omega)⟩ (by dsimp only; omega)
                  · skip
                    have f_216 : 2048 ≤ (lk_c L p0 k (k - 1)) := Nat.le_of_not_lt (fun z => c_216 (nI_lt (b := 2048) z (by omega)))
                    have hlk2 : lk_l k ≤ (lk_c L p0 k (k - 1)) := by rw [show lk_l k = 2048 by rw [f_194]; rfl]; omega
                    refine lv_iload hx hb d_Mo_look_219 (lv_at hl 6 rfl) ?_
                    refine lv_i2l hx hb d_Mo_look_221 rfl ?_
                    have hPc := hP.sub (ws' := []) [] rfl
                    have hKc := hK.sub (tys' := []) [] rfl
                    refine vp_callSi (W.runS (As := [.long ((nI (lk_c L p0 k (k - 1))).toInt64)]) (rest := []) ⟨hx, hb, hml, hown, hg⟩ (c_Mo_isCode l dC dI ((nI (lk_c L p0 k (k - 1))).toInt64) ) (va_cwS 1 hg (gi_S kw_834 kw_835 kw_9 kw_836) rfl rfl rfl (by decide +kernel) ⟨Nat.le_of_ble_eq_true rfl, Nat.le_of_ble_eq_true rfl⟩) (zz_prJS hPc hKc _) rfl rfl hl.1 rfl (lv_room (Nat.le_of_ble_eq_true rfl)) d_Mo_look_222 ⟨Nat.le_of_ble_eq_true rfl, Nat.le_of_ble_eq_true rfl⟩) (fun r_27 hr_27 => ?_)
                    rw [ut_tl (by omega)] at hr_27
                    refine lv_if_ne (tgt := 231) hx hb d_Mo_look_225 (by decide) (fun c_225 => ?_) (fun c_225 => ?_)
                    · skip
                      have hlk3 := by_z_t hr_27 c_225
                      refine lv_aload_n hx hb d_Mo_look_231 rfl (lv_at hl 1 rfl) ?_
                      refine lv_iload hx hb d_Mo_look_232 (lv_at hl 5 rfl) ?_
                      refine va_put (D := (dC, dI)) (ci := 8) (v := .int (nI k)) (ty := .int) (C := "TextForgeModel") (T := TX8) (N := 19) hx hb hg iwX8 tyX8 tyX8_ok nmX8 hown hK hP hD hS 0 rfl rfl 17 (by decide) (hg _ kw_743) (fun _ h9 => h9) rfl (by decide +kernel) rfl rfl (Nat.le_of_ble_eq_true rfl) d_Mo_look_234 (fun H locs hP hD hS => ?_)
                      have hP : va_P (dC, dI) vwCl [(mo, .inr (8, [.int th, .int fd, .ref rt, .int mn, .ref rk, .ref rv, .ref rw, .ref ro, .int md, .ref rr, .int pt, .ref ra, .long pz, .int kc, .ref rc, .ref rl, .ref rb, .int (nI k), .int (nI (lk_B (ut_at L p0) k))])), (q, .inl (cB, sz, .inl gq))] H := hP
                      have hD : va_D A [(mo, .inr (8, [.int th, .int fd, .ref rt, .int mn, .ref rk, .ref rv, .ref rw, .ref ro, .int md, .ref rr, .int pt, .ref ra, .long pz, .int kc, .ref rc, .ref rl, .ref rb, .int (nI k), .int (nI (lk_B (ut_at L p0) k))])), (q, .inl (cB, sz, .inl gq))] := hD
                      refine lv_aload_n hx hb d_Mo_look_237 rfl (lv_at hl 1 rfl) ?_
                      refine lv_iload hx hb d_Mo_look_238 (lv_at hl 6 rfl) ?_
                      refine va_put (D := (dC, dI)) (ci := 8) (v := .int (nI (lk_c L p0 k (k - 1)))) (ty := .int) (C := "TextForgeModel") (T := TX8) (N := 19) hx hb hg iwX8 tyX8 tyX8_ok nmX8 hown hK hP hD hS 0 rfl rfl 18 (by decide) (hg _ kw_744) (fun _ h9 => h9) rfl (by decide +kernel) rfl rfl (Nat.le_of_ble_eq_true rfl) d_Mo_look_240 (fun H locs hP hD hS => ?_)
                      have hP : va_P (dC, dI) vwCl [(mo, .inr (8, [.int th, .int fd, .ref rt, .int mn, .ref rk, .ref rv, .ref rw, .ref ro, .int md, .ref rr, .int pt, .ref ra, .long pz, .int kc, .ref rc, .ref rl, .ref rb, .int (nI k), .int (nI (lk_c L p0 k (k - 1)))])), (q, .inl (cB, sz, .inl gq))] H := hP
                      have hD : va_D A [(mo, .inr (8, [.int th, .int fd, .ref rt, .int mn, .ref rk, .ref rv, .ref rw, .ref ro, .int md, .ref rr, .int pt, .ref ra, .long pz, .int kc, .ref rc, .ref rl, .ref rb, .int (nI k), .int (nI (lk_c L p0 k (k - 1)))])), (q, .inl (cB, sz, .inl gq))] := hD
                      refine lv_iinc (v := (nI k) + 1) (lv' := [(4, .int ((nI k) + 1)), (8, .int 2048), (0, .ref mo), (1, .ref q), (2, .int (nI (b0 + p0))), (3, .int (nI (L.length - p0))), (6, .int (nI (lk_c L p0 k (k - 1)))), (7, .int (by_z (lk_i L p0 k (k - 1))))]) hx hb d_Mo_look_243 hl (k := 5) rfl rfl (by decide) rfl (fun ls hl => ?_)
                      refine lv_goto (tgt := 14) hx hb d_Mo_look_246 (by decide) ?_
                      have hso := lk_so (lk_yes ⟨hk1, by omega⟩ (by omega) hb9 hlk1 hlk2 hlk3)
                      rw [show Value.int (nI k) = Value.int (nI (lk_A (ut_at L p0) (k + 1))) by rw [← hso.1], show Value.int (nI (lk_c L p0 k (k - 1))) = Value.int (nI (lk_B (ut_at L p0) (k + 1))) by rw [← hso.2]] at hP hD
                      rw [nI_1] at hl
                      exact ih_14 (k + 1) H locs ls ⟨hP.sub [0, 1] rfl, hD.sub [0, 1] (by decide) rfl, hS, lv_sub hl [2, 3, 4, 5, 0] rfl, (by omega), (by omega)⟩ (by dsimp only; omega)
                    · skip
                      refine lv_goto (tgt := 243) hx hb d_Mo_look_228 (by decide) ?_
                      refine lv_iinc (v := (nI k) + 1) (lv' := [(4, .int ((nI k) + 1)), (8, .int 2048), (0, .ref mo), (1, .ref q), (2, .int (nI (b0 + p0))), (3, .int (nI (L.length - p0))), (6, .int (nI (lk_c L p0 k (k - 1)))), (7, .int (by_z (lk_i L p0 k (k - 1))))]) hx hb d_Mo_look_243 hl (k := 5) rfl rfl (by decide) rfl (fun ls hl => ?_)
                      refine lv_goto (tgt := 14) hx hb d_Mo_look_246 (by decide) ?_
                      have hso := lk_no (o := (ut_at L p0)) (k := k) (fun c9 hc9 hk9 => absurd (lk_inv hc9 hk9).2.2 (by rw [by_z_f hr_27 c_225]; decide))
                      rw [hso.1, hso.2] at hP hD
                      rw [nI_1] at hl
                      exact ih_14 (k + 1) H locs ls ⟨hP.sub [0, 1] rfl, hD.sub [0, 1] (by decide) rfl, hS, lv_sub hl [2, 3, 4, 5, 0] rfl, (by omega), (by omega)⟩ (by dsimp only; omega)
            · skip
              have f_182 : k = 2 := nI_e1 (b := 2) c_182 (by omega) (by omega)
              refine lv_sipush (v := 128) hx hb d_Mo_look_185 (by decide) ?_
              refine lv_goto (tgt := 205) hx hb d_Mo_look_188 (by decide) ?_
              refine lv_istore (lv' := [(8, .int 128), (0, .ref mo), (1, .ref q), (2, .int (nI (b0 + p0))), (3, .int (nI (L.length - p0))), (4, .int (nI k)), (6, .int (nI (lk_c L p0 k (k - 1)))), (7, .int (by_z (lk_i L p0 k (k - 1))))]) hx hb d_Mo_look_205 hl (by decide) rfl (fun ls hl => ?_)
              refine lv_iload hx hb d_Mo_look_207 (lv_at hl 7 rfl) ?_
              refine lv_if_eq (tgt := 243) hx hb d_Mo_look_209 (by decide) (fun c_209 => ?_) (fun c_209 => ?_)
              · skip
                refine lv_iinc (v := (nI k) + 1) (lv' := [(4, .int ((nI k) + 1)), (8, .int 128), (0, .ref mo), (1, .ref q), (2, .int (nI (b0 + p0))), (3, .int (nI (L.length - p0))), (6, .int (nI (lk_c L p0 k (k - 1)))), (7, .int (by_z (lk_i L p0 k (k - 1))))]) hx hb d_Mo_look_243 hl (k := 5) rfl rfl (by decide) rfl (fun ls hl => ?_)
                refine lv_goto (tgt := 14) hx hb d_Mo_look_246 (by decide) ?_
                have hso := lk_no (o := (ut_at L p0)) (k := k) (fun c9 hc9 hk9 => absurd (lk_inv hc9 hk9).1 (by rw [by_z_f rfl c_209]; decide))
                rw [hso.1, hso.2] at hP hD
                rw [nI_1] at hl
                exact ih_14 (k + 1) H locs ls ⟨hP.sub [0, 1] rfl, hD.sub [0, 1] (by decide) rfl, hS, lv_sub hl [2, 3, 4, 5, 0] rfl, (by omega), (by omega)⟩ (by dsimp only; omega)
              · skip
                have hlk1 := by_z_t rfl c_209
                have hcb := lk_b3 (k := k) (i := k - 1) hb9 (by omega)
                refine lv_iload hx hb d_Mo_look_212 (lv_at hl 6 rfl) ?_
                refine lv_iload hx hb d_Mo_look_214 (lv_at hl 0 rfl) ?_
                refine lv_icmp_lt (tgt := 243) hx hb d_Mo_look_216 (by decide) (fun c_216 => ?_) (fun c_216 => ?_)
                · skip
                  have f_216 : (lk_c L p0 k (k - 1)) < 128 := (nI_ltI (b := 128) (by omega) (by omega)).mp c_216
                  refine lv_iinc (v := (nI k) + 1) (lv' := [(4, .int ((nI k) + 1)), (8, .int 128), (0, .ref mo), (1, .ref q), (2, .int (nI (b0 + p0))), (3, .int (nI (L.length - p0))), (6, .int (nI (lk_c L p0 k (k - 1)))), (7, .int (by_z (lk_i L p0 k (k - 1))))]) hx hb d_Mo_look_243 hl (k := 5) rfl rfl (by decide) rfl (fun ls hl => ?_)
                  refine lv_goto (tgt := 14) hx hb d_Mo_look_246 (by decide) ?_
                  have hso := lk_no (o := (ut_at L p0)) (k := k) (fun c9 hc9 hk9 => absurd (lk_inv hc9 hk9).2.1 (by rw [show lk_l k = 128 by rw [f_182]; rfl]; omega))
                  rw [hso.1, hso.2] at hP hD
                  rw [nI_1] at hl
                  exact ih_14 (k + 1) H locs ls ⟨hP.sub [0, 1] rfl, hD.sub [0, 1] (by decide) rfl, hS, lv_sub hl [2, 3, 4, 5, 0] rfl, (by omega), (by omega)⟩ (by dsimp only; omega)
                · skip
                  have f_216 : 128 ≤ (lk_c L p0 k (k - 1)) := Nat.le_of_not_lt (fun z => c_216 (nI_lt (b := 128) z (by omega)))
                  have hlk2 : lk_l k ≤ (lk_c L p0 k (k - 1)) := by rw [show lk_l k = 128 by rw [f_182]; rfl]; omega
                  refine lv_iload hx hb d_Mo_look_219 (lv_at hl 6 rfl) ?_
                  refine lv_i2l hx hb d_Mo_look_221 rfl ?_
                  have hPc := hP.sub (ws' := []) [] rfl
                  have hKc := hK.sub (tys' := []) [] rfl
                  refine vp_callSi (W.runS (As := [.long ((nI (lk_c L p0 k (k - 1))).toInt64)]) (rest := []) ⟨hx, hb, hml, hown, hg⟩ (c_Mo_isCode l dC dI ((nI (lk_c L p0 k (k - 1))).toInt64) ) (va_cwS 1 hg (gi_S kw_834 kw_835 kw_9 kw_836) rfl rfl rfl (by decide +kernel) ⟨Nat.le_of_ble_eq_true rfl, Nat.le_of_ble_eq_true rfl⟩) (zz_prJS hPc hKc _) rfl rfl hl.1 rfl (lv_room (Nat.le_of_ble_eq_true rfl)) d_Mo_look_222 ⟨Nat.le_of_ble_eq_true rfl, Nat.le_of_ble_eq_true rfl⟩) (fun r_28 hr_28 => ?_)
                  rw [ut_tl (by omega)] at hr_28
                  refine lv_if_ne (tgt := 231) hx hb d_Mo_look_225 (by decide) (fun c_225 => ?_) (fun c_225 => ?_)
                  · skip
                    have hlk3 := by_z_t hr_28 c_225
                    refine lv_aload_n hx hb d_Mo_look_231 rfl (lv_at hl 1 rfl) ?_
                    refine lv_iload hx hb d_Mo_look_232 (lv_at hl 5 rfl) ?_
                    refine va_put (D := (dC, dI)) (ci := 8) (v := .int (nI k)) (ty := .int) (C := "TextForgeModel") (T := TX8) (N := 19) hx hb hg iwX8 tyX8 tyX8_ok nmX8 hown hK hP hD hS 0 rfl rfl 17 (by decide) (hg _ kw_743) (fun _ h9 => h9) rfl (by decide +kernel) rfl rfl (Nat.le_of_ble_eq_true rfl) d_Mo_look_234 (fun H locs hP hD hS => ?_)
                    have hP : va_P (dC, dI) vwCl [(mo, .inr (8, [.int th, .int fd, .ref rt, .int mn, .ref rk, .ref rv, .ref rw, .ref ro, .int md, .ref rr, .int pt, .ref ra, .long pz, .int kc, .ref rc, .ref rl, .ref rb, .int (nI k), .int (nI (lk_B (ut_at L p0) k))])), (q, .inl (cB, sz, .inl gq))] H := hP
                    have hD : va_D A [(mo, .inr (8, [.int th, .int fd, .ref rt, .int mn, .ref rk, .ref rv, .ref rw, .ref ro, .int md, .ref rr, .int pt, .ref ra, .long pz, .int kc, .ref rc, .ref rl, .ref rb, .int (nI k), .int (nI (lk_B (ut_at L p0) k))])), (q, .inl (cB, sz, .inl gq))] := hD
                    refine lv_aload_n hx hb d_Mo_look_237 rfl (lv_at hl 1 rfl) ?_
                    refine lv_iload hx hb d_Mo_look_238 (lv_at hl 6 rfl) ?_
                    refine va_put (D := (dC, dI)) (ci := 8) (v := .int (nI (lk_c L p0 k (k - 1)))) (ty := .int) (C := "TextForgeModel") (T := TX8) (N := 19) hx hb hg iwX8 tyX8 tyX8_ok nmX8 hown hK hP hD hS 0 rfl rfl 18 (by decide) (hg _ kw_744) (fun _ h9 => h9) rfl (by decide +kernel) rfl rfl (Nat.le_of_ble_eq_true rfl) d_Mo_look_240 (fun H locs hP hD hS => ?_)
                    have hP : va_P (dC, dI) vwCl [(mo, .inr (8, [.int th, .int fd, .ref rt, .int mn, .ref rk, .ref rv, .ref rw, .ref ro, .int md, .ref rr, .int pt, .ref ra, .long pz, .int kc, .ref rc, .ref rl, .ref rb, .int (nI k), .int (nI (lk_c L p0 k (k - 1)))])), (q, .inl (cB, sz, .inl gq))] H := hP
                    have hD : va_D A [(mo, .inr (8, [.int th, .int fd, .ref rt, .int mn, .ref rk, .ref rv, .ref rw, .ref ro, .int md, .ref rr, .int pt, .ref ra, .long pz, .int kc, .ref rc, .ref rl, .ref rb, .int (nI k), .int (nI (lk_c L p0 k (k - 1)))])), (q, .inl (cB, sz, .inl gq))] := hD
                    refine lv_iinc (v := (nI k) + 1) (lv' := [(4, .int ((nI k) + 1)), (8, .int 128), (0, .ref mo), (1, .ref q), (2, .int (nI (b0 + p0))), (3, .int (nI (L.length - p0))), (6, .int (nI (lk_c L p0 k (k - 1)))), (7, .int (by_z (lk_i L p0 k (k - 1))))]) hx hb d_Mo_look_243 hl (k := 5) rfl rfl (by decide) rfl (fun ls hl => ?_)
                    refine lv_goto (tgt := 14) hx hb d_Mo_look_246 (by decide) ?_
                    have hso := lk_so (lk_yes ⟨hk1, by omega⟩ (by omega) hb9 hlk1 hlk2 hlk3)
                    rw [show Value.int (nI k) = Value.int (nI (lk_A (ut_at L p0) (k + 1))) by rw [← hso.1], show Value.int (nI (lk_c L p0 k (k - 1))) = Value.int (nI (lk_B (ut_at L p0) (k + 1))) by rw [← hso.2]] at hP hD
                    rw [nI_1] at hl
                    exact ih_14 (k + 1) H locs ls ⟨hP.sub [0, 1] rfl, hD.sub [0, 1] (by decide) rfl, hS, lv_sub hl [2, 3, 4, 5, 0] rfl, (by omega), (by omega)⟩ (by dsimp only; omega)
                  · skip
                    refine lv_goto (tgt := 243) hx hb d_Mo_look_228 (by decide) ?_
                    refine lv_iinc (v := (nI k) + 1) (lv' := [(4, .int ((nI k) + 1)), (8, .int 128), (0, .ref mo), (1, .ref q), (2, .int (nI (b0 + p0))), (3, .int (nI (L.length - p0))), (6, .int (nI (lk_c L p0 k (k - 1)))), (7, .int (by_z (lk_i L p0 k (k - 1))))]) hx hb d_Mo_look_243 hl (k := 5) rfl rfl (by decide) rfl (fun ls hl => ?_)
                    refine lv_goto (tgt := 14) hx hb d_Mo_look_246 (by decide) ?_
                    have hso := lk_no (o := (ut_at L p0)) (k := k) (fun c9 hc9 hk9 => absurd (lk_inv hc9 hk9).2.2 (by rw [by_z_f hr_28 c_225]; decide))
                    rw [hso.1, hso.2] at hP hD
                    rw [nI_1] at hl
                    exact ih_14 (k + 1) H locs ls ⟨hP.sub [0, 1] rfl, hD.sub [0, 1] (by decide) rfl, hS, lv_sub hl [2, 3, 4, 5, 0] rfl, (by omega), (by omega)⟩ (by dsimp only; omega)
          · skip
            have f_115 : (i0 + 1) < k := Nat.lt_of_not_le (fun z => c_115 (nI_le (a := k) z (by omega)))
            have hbi := hLq (p0 + (i0 + 1)) (by omega)
            refine lv_iload hx hb d_Mo_look_118 (lv_at hl 6 rfl) ?_
            refine lv_if_eq (tgt := 143) hx hb d_Mo_look_120 (by decide) (fun c_120 => ?_) (fun c_120 => ?_)
            · skip
              refine lv_iconst (v := 0) hx hb d_Mo_look_143 (by decide) ?_
              refine lv_topi (fun y_29 ey_29 => ?_)
              have ey_29 : y_29 = (by_z (lk_i L p0 k (i0 + 1)) : Int32) := ey_29.trans (show 0 = by_z (lk_i L p0 k (i0 + 1)) from (by rw [lk_i, by_z_f rfl c_120]; rfl))
              subst ey_29
              refine lv_istore (lv' := [(7, .int (by_z (lk_i L p0 k (i0 + 1)))), (0, .ref mo), (1, .ref q), (2, .int (nI (b0 + p0))), (3, .int (nI (L.length - p0))), (4, .int (nI k)), (6, .int (nI (lk_c L p0 k i0))), (8, .int (nI (i0 + 1)))]) hx hb d_Mo_look_144 hl (by decide) rfl (fun ls hl => ?_)
              refine lv_iload hx hb d_Mo_look_146 (lv_at hl 6 rfl) ?_
              refine lv_bipush (v := 6) hx hb d_Mo_look_148 (by decide) ?_
              refine lv_ishl hx hb d_Mo_look_150 ?_
              refine lv_aload_n hx hb d_Mo_look_151 rfl (lv_at hl 2 rfl) ?_
              refine lv_iload_n hx hb d_Mo_look_152 rfl (lv_at hl 3 rfl) ?_
              refine lv_iload hx hb d_Mo_look_153 (lv_at hl 7 rfl) ?_
              refine lv_iadd hx hb d_Mo_look_155 ?_
              refine lv_topi (fun y_30 ey_30 => ?_)
              have ey_30 : y_30 = (nI (b0 + (p0 + (i0 + 1))) : Int32) := ey_30.trans (show ((nI (b0 + p0)) + (nI (i0 + 1))) = nI (b0 + (p0 + (i0 + 1))) from (by rw [nI_add, Nat.add_assoc]))
              subst ey_30
              refine va_bald hx hb hK hP 1 0 rfl rfl (vp_in_nI (by omega) (by omega)) d_Mo_look_156 ?_
              refine lv_topi (fun y_31 ey_31 => ?_)
              have ey_31 : y_31 = (sb_b (L.getD (p0 + (i0 + 1)) 0) : Int32) := ey_31.trans (show (gq (nI (b0 + (p0 + (i0 + 1)))).toNatClampNeg) = sb_b (L.getD (p0 + (i0 + 1)) 0) from (by rw [nI_clamp (show b0 + (p0 + (i0 + 1)) < 2 ^ 31 by omega)]; exact hbi.2))
              subst ey_31
              refine lv_bipush (v := 63) hx hb d_Mo_look_157 (by decide) ?_
              refine lv_iand hx hb d_Mo_look_159 ?_
              refine lv_topi (fun y_32 ey_32 => ?_)
              have ey_32 : y_32 = (nI (L.getD (p0 + (i0 + 1)) 0 % 64) : Int32) := ey_32.trans (show ((sb_b (L.getD (p0 + (i0 + 1)) 0)) &&& 63) = nI (L.getD (p0 + (i0 + 1)) 0 % 64) from (sb_63 _ hbi.1))
              subst ey_32
              refine lv_ior hx hb d_Mo_look_160 ?_
              refine lv_topi (fun y_33 ey_33 => ?_)
              have ey_33 : y_33 = (nI (lk_c L p0 k (i0 + 1)) : Int32) := ey_33.trans (show (((nI (lk_c L p0 k i0)) <<< ((6 : Int32) &&& 31)) ||| (nI (L.getD (p0 + (i0 + 1)) 0 % 64))) = nI (lk_c L p0 k (i0 + 1)) from (lk_sh (lk_b2 hb9 (by omega)) (Nat.mod_lt _ (by decide))))
              subst ey_33
              refine lv_istore (lv' := [(6, .int (nI (lk_c L p0 k (i0 + 1)))), (7, .int (by_z (lk_i L p0 k (i0 + 1)))), (0, .ref mo), (1, .ref q), (2, .int (nI (b0 + p0))), (3, .int (nI (L.length - p0))), (4, .int (nI k)), (8, .int (nI (i0 + 1)))]) hx hb d_Mo_look_161 hl (by decide) rfl (fun ls hl => ?_)
              refine lv_iinc (v := (nI (i0 + 1)) + 1) (lv' := [(8, .int ((nI (i0 + 1)) + 1)), (6, .int (nI (lk_c L p0 k (i0 + 1)))), (7, .int (by_z (lk_i L p0 k (i0 + 1)))), (0, .ref mo), (1, .ref q), (2, .int (nI (b0 + p0))), (3, .int (nI (L.length - p0))), (4, .int (nI k))]) hx hb d_Mo_look_163 hl (k := 7) rfl rfl (by decide) rfl (fun ls hl => ?_)
              refine lv_goto (tgt := 111) hx hb d_Mo_look_166 (by decide) ?_
              rw [nI_1] at hl
              exact ih_111 (i0 + 1) H locs ls ⟨hP.sub [0, 1] rfl, hD.sub [0, 1] (by decide) rfl, hS, lv_sub hl [3, 4, 5, 6, 7, 1, 2, 0] rfl, f_115⟩ (by dsimp only; omega)
            · skip
              refine lv_aload_n hx hb d_Mo_look_123 rfl (lv_at hl 1 rfl) ?_
              refine lv_iload_n hx hb d_Mo_look_124 rfl (lv_at hl 2 rfl) ?_
              refine lv_iload hx hb d_Mo_look_125 (lv_at hl 7 rfl) ?_
              refine lv_iadd hx hb d_Mo_look_127 ?_
              refine lv_topi (fun y_34 ey_34 => ?_)
              have ey_34 : y_34 = (nI (b0 + (p0 + (i0 + 1))) : Int32) := ey_34.trans (show ((nI (b0 + p0)) + (nI (i0 + 1))) = nI (b0 + (p0 + (i0 + 1))) from (by rw [nI_add, Nat.add_assoc]))
              subst ey_34
              refine va_bald hx hb hK hP 1 0 rfl rfl (vp_in_nI (by omega) (by omega)) d_Mo_look_128 ?_
              refine lv_topi (fun y_35 ey_35 => ?_)
              have ey_35 : y_35 = (sb_b (L.getD (p0 + (i0 + 1)) 0) : Int32) := ey_35.trans (show (gq (nI (b0 + (p0 + (i0 + 1)))).toNatClampNeg) = sb_b (L.getD (p0 + (i0 + 1)) 0) from (by rw [nI_clamp (show b0 + (p0 + (i0 + 1)) < 2 ^ 31 by omega)]; exact hbi.2))
              subst ey_35
              refine lv_sipush (v := 192) hx hb d_Mo_look_129 (by decide) ?_
              refine lv_iand hx hb d_Mo_look_132 ?_
              refine lv_sipush (v := 128) hx hb d_Mo_look_133 (by decide) ?_
              refine lv_icmp_ne (tgt := 143) hx hb d_Mo_look_136 (by decide) (fun c_136 => ?_) (fun c_136 => ?_)
              · skip
                refine lv_iconst (v := 0) hx hb d_Mo_look_143 (by decide) ?_
                refine lv_topi (fun y_36 ey_36 => ?_)
                have ey_36 : y_36 = (by_z (lk_i L p0 k (i0 + 1)) : Int32) := ey_36.trans (show 0 = by_z (lk_i L p0 k (i0 + 1)) from (by rw [lk_i, by_z_t rfl c_120, decide_eq_false (fun z => c_136 ((sb_192 _ hbi.1).mpr z))]; rfl))
                subst ey_36
                refine lv_istore (lv' := [(7, .int (by_z (lk_i L p0 k (i0 + 1)))), (0, .ref mo), (1, .ref q), (2, .int (nI (b0 + p0))), (3, .int (nI (L.length - p0))), (4, .int (nI k)), (6, .int (nI (lk_c L p0 k i0))), (8, .int (nI (i0 + 1)))]) hx hb d_Mo_look_144 hl (by decide) rfl (fun ls hl => ?_)
                refine lv_iload hx hb d_Mo_look_146 (lv_at hl 6 rfl) ?_
                refine lv_bipush (v := 6) hx hb d_Mo_look_148 (by decide) ?_
                refine lv_ishl hx hb d_Mo_look_150 ?_
                refine lv_aload_n hx hb d_Mo_look_151 rfl (lv_at hl 2 rfl) ?_
                refine lv_iload_n hx hb d_Mo_look_152 rfl (lv_at hl 3 rfl) ?_
                refine lv_iload hx hb d_Mo_look_153 (lv_at hl 7 rfl) ?_
                refine lv_iadd hx hb d_Mo_look_155 ?_
                refine lv_topi (fun y_37 ey_37 => ?_)
                have ey_37 : y_37 = (nI (b0 + (p0 + (i0 + 1))) : Int32) := ey_37.trans (show ((nI (b0 + p0)) + (nI (i0 + 1))) = nI (b0 + (p0 + (i0 + 1))) from (by rw [nI_add, Nat.add_assoc]))
                subst ey_37
                refine va_bald hx hb hK hP 1 0 rfl rfl (vp_in_nI (by omega) (by omega)) d_Mo_look_156 ?_
                refine lv_topi (fun y_38 ey_38 => ?_)
                have ey_38 : y_38 = (sb_b (L.getD (p0 + (i0 + 1)) 0) : Int32) := ey_38.trans (show (gq (nI (b0 + (p0 + (i0 + 1)))).toNatClampNeg) = sb_b (L.getD (p0 + (i0 + 1)) 0) from (by rw [nI_clamp (show b0 + (p0 + (i0 + 1)) < 2 ^ 31 by omega)]; exact hbi.2))
                subst ey_38
                refine lv_bipush (v := 63) hx hb d_Mo_look_157 (by decide) ?_
                refine lv_iand hx hb d_Mo_look_159 ?_
                refine lv_topi (fun y_39 ey_39 => ?_)
                have ey_39 : y_39 = (nI (L.getD (p0 + (i0 + 1)) 0 % 64) : Int32) := ey_39.trans (show ((sb_b (L.getD (p0 + (i0 + 1)) 0)) &&& 63) = nI (L.getD (p0 + (i0 + 1)) 0 % 64) from (sb_63 _ hbi.1))
                subst ey_39
                refine lv_ior hx hb d_Mo_look_160 ?_
                refine lv_topi (fun y_40 ey_40 => ?_)
                have ey_40 : y_40 = (nI (lk_c L p0 k (i0 + 1)) : Int32) := ey_40.trans (show (((nI (lk_c L p0 k i0)) <<< ((6 : Int32) &&& 31)) ||| (nI (L.getD (p0 + (i0 + 1)) 0 % 64))) = nI (lk_c L p0 k (i0 + 1)) from (lk_sh (lk_b2 hb9 (by omega)) (Nat.mod_lt _ (by decide))))
                subst ey_40
                refine lv_istore (lv' := [(6, .int (nI (lk_c L p0 k (i0 + 1)))), (7, .int (by_z (lk_i L p0 k (i0 + 1)))), (0, .ref mo), (1, .ref q), (2, .int (nI (b0 + p0))), (3, .int (nI (L.length - p0))), (4, .int (nI k)), (8, .int (nI (i0 + 1)))]) hx hb d_Mo_look_161 hl (by decide) rfl (fun ls hl => ?_)
                refine lv_iinc (v := (nI (i0 + 1)) + 1) (lv' := [(8, .int ((nI (i0 + 1)) + 1)), (6, .int (nI (lk_c L p0 k (i0 + 1)))), (7, .int (by_z (lk_i L p0 k (i0 + 1)))), (0, .ref mo), (1, .ref q), (2, .int (nI (b0 + p0))), (3, .int (nI (L.length - p0))), (4, .int (nI k))]) hx hb d_Mo_look_163 hl (k := 7) rfl rfl (by decide) rfl (fun ls hl => ?_)
                refine lv_goto (tgt := 111) hx hb d_Mo_look_166 (by decide) ?_
                rw [nI_1] at hl
                exact ih_111 (i0 + 1) H locs ls ⟨hP.sub [0, 1] rfl, hD.sub [0, 1] (by decide) rfl, hS, lv_sub hl [3, 4, 5, 6, 7, 1, 2, 0] rfl, f_115⟩ (by dsimp only; omega)
              · skip
                refine lv_iconst (v := 1) hx hb d_Mo_look_139 (by decide) ?_
                refine lv_goto (tgt := 144) hx hb d_Mo_look_140 (by decide) ?_
                refine lv_topi (fun y_41 ey_41 => ?_)
                have ey_41 : y_41 = (by_z (lk_i L p0 k (i0 + 1)) : Int32) := ey_41.trans (show 1 = by_z (lk_i L p0 k (i0 + 1)) from (by rw [lk_i, by_z_t rfl c_120, decide_eq_true ((sb_192 _ hbi.1).mp c_136)]; rfl))
                subst ey_41
                refine lv_istore (lv' := [(7, .int (by_z (lk_i L p0 k (i0 + 1)))), (0, .ref mo), (1, .ref q), (2, .int (nI (b0 + p0))), (3, .int (nI (L.length - p0))), (4, .int (nI k)), (6, .int (nI (lk_c L p0 k i0))), (8, .int (nI (i0 + 1)))]) hx hb d_Mo_look_144 hl (by decide) rfl (fun ls hl => ?_)
                refine lv_iload hx hb d_Mo_look_146 (lv_at hl 6 rfl) ?_
                refine lv_bipush (v := 6) hx hb d_Mo_look_148 (by decide) ?_
                refine lv_ishl hx hb d_Mo_look_150 ?_
                refine lv_aload_n hx hb d_Mo_look_151 rfl (lv_at hl 2 rfl) ?_
                refine lv_iload_n hx hb d_Mo_look_152 rfl (lv_at hl 3 rfl) ?_
                refine lv_iload hx hb d_Mo_look_153 (lv_at hl 7 rfl) ?_
                refine lv_iadd hx hb d_Mo_look_155 ?_
                refine lv_topi (fun y_42 ey_42 => ?_)
                have ey_42 : y_42 = (nI (b0 + (p0 + (i0 + 1))) : Int32) := ey_42.trans (show ((nI (b0 + p0)) + (nI (i0 + 1))) = nI (b0 + (p0 + (i0 + 1))) from (by rw [nI_add, Nat.add_assoc]))
                subst ey_42
                refine va_bald hx hb hK hP 1 0 rfl rfl (vp_in_nI (by omega) (by omega)) d_Mo_look_156 ?_
                refine lv_topi (fun y_43 ey_43 => ?_)
                have ey_43 : y_43 = (sb_b (L.getD (p0 + (i0 + 1)) 0) : Int32) := ey_43.trans (show (gq (nI (b0 + (p0 + (i0 + 1)))).toNatClampNeg) = sb_b (L.getD (p0 + (i0 + 1)) 0) from (by rw [nI_clamp (show b0 + (p0 + (i0 + 1)) < 2 ^ 31 by omega)]; exact hbi.2))
                subst ey_43
                refine lv_bipush (v := 63) hx hb d_Mo_look_157 (by decide) ?_
                refine lv_iand hx hb d_Mo_look_159 ?_
                refine lv_topi (fun y_44 ey_44 => ?_)
                have ey_44 : y_44 = (nI (L.getD (p0 + (i0 + 1)) 0 % 64) : Int32) := ey_44.trans (show ((sb_b (L.getD (p0 + (i0 + 1)) 0)) &&& 63) = nI (L.getD (p0 + (i0 + 1)) 0 % 64) from (sb_63 _ hbi.1))
                subst ey_44
                refine lv_ior hx hb d_Mo_look_160 ?_
                refine lv_topi (fun y_45 ey_45 => ?_)
                have ey_45 : y_45 = (nI (lk_c L p0 k (i0 + 1)) : Int32) := ey_45.trans (show (((nI (lk_c L p0 k i0)) <<< ((6 : Int32) &&& 31)) ||| (nI (L.getD (p0 + (i0 + 1)) 0 % 64))) = nI (lk_c L p0 k (i0 + 1)) from (lk_sh (lk_b2 hb9 (by omega)) (Nat.mod_lt _ (by decide))))
                subst ey_45
                refine lv_istore (lv' := [(6, .int (nI (lk_c L p0 k (i0 + 1)))), (7, .int (by_z (lk_i L p0 k (i0 + 1)))), (0, .ref mo), (1, .ref q), (2, .int (nI (b0 + p0))), (3, .int (nI (L.length - p0))), (4, .int (nI k)), (8, .int (nI (i0 + 1)))]) hx hb d_Mo_look_161 hl (by decide) rfl (fun ls hl => ?_)
                refine lv_iinc (v := (nI (i0 + 1)) + 1) (lv' := [(8, .int ((nI (i0 + 1)) + 1)), (6, .int (nI (lk_c L p0 k (i0 + 1)))), (7, .int (by_z (lk_i L p0 k (i0 + 1)))), (0, .ref mo), (1, .ref q), (2, .int (nI (b0 + p0))), (3, .int (nI (L.length - p0))), (4, .int (nI k))]) hx hb d_Mo_look_163 hl (k := 7) rfl rfl (by decide) rfl (fun ls hl => ?_)
                refine lv_goto (tgt := 111) hx hb d_Mo_look_166 (by decide) ?_
                rw [nI_1] at hl
                exact ih_111 (i0 + 1) H locs ls ⟨hP.sub [0, 1] rfl, hD.sub [0, 1] (by decide) rfl, hS, lv_sub hl [3, 4, 5, 6, 7, 1, 2, 0] rfl, f_115⟩ (by dsimp only; omega)
      · skip
        have f_38 : k = 1 := nI_e1 (b := 1) c_38 (by omega) (by omega)
        refine lv_iload hx hb d_Mo_look_41 (lv_at hl 0 rfl) ?_
        refine lv_goto (tgt := 58) hx hb d_Mo_look_43 (by decide) ?_
        refine lv_topi (fun y_46 ey_46 => ?_)
        have ey_46 : y_46 = (nI (lk_c L p0 k 0) : Int32) := ey_46.trans (show (nI (L.getD p0 0)) = nI (lk_c L p0 k 0) from (by rw [lk_c, if_pos f_38]))
        subst ey_46
        refine lv_istore (lv' := [(6, .int (nI (lk_c L p0 k 0))), (5, .int (nI (L.getD p0 0))), (0, .ref mo), (1, .ref q), (2, .int (nI (b0 + p0))), (3, .int (nI (L.length - p0))), (4, .int (nI k))]) hx hb d_Mo_look_58 hl (by decide) rfl (fun ls hl => ?_)
        refine lv_iload hx hb d_Mo_look_60 (lv_at hl 6 rfl) ?_
        refine lv_iconst (v := 1) hx hb d_Mo_look_62 (by decide) ?_
        refine lv_icmp_ne (tgt := 82) hx hb d_Mo_look_63 (by decide) (fun c9 => by first | exact absurd c9 c_38 | exact absurd c_38 c9) (fun _ => ?_)
        refine lv_iload hx hb d_Mo_look_66 (lv_at hl 1 rfl) ?_
        refine lv_sipush (v := 128) hx hb d_Mo_look_68 (by decide) ?_
        refine lv_icmp_ge (tgt := 78) hx hb d_Mo_look_71 (by decide) (fun c_71 => ?_) (fun c_71 => ?_)
        · skip
          have f_71 : 128 ≤ L.getD p0 0 := Nat.le_of_not_lt (fun z => nI_ge (b := 128) z (by omega) c_71)
          refine lv_iconst (v := 0) hx hb d_Mo_look_78 (by decide) ?_
          refine lv_goto (tgt := 106) hx hb d_Mo_look_79 (by decide) ?_
          refine lv_topi (fun y_47 ey_47 => ?_)
          have ey_47 : y_47 = (by_z (lk_i L p0 k 0) : Int32) := ey_47.trans (show 0 = by_z (lk_i L p0 k 0) from (by rw [lk_i, if_pos f_38, decide_eq_false (by omega)]; rfl))
          subst ey_47
          refine lv_istore (lv' := [(7, .int (by_z (lk_i L p0 k 0))), (6, .int (nI (lk_c L p0 k 0))), (5, .int (nI (L.getD p0 0))), (0, .ref mo), (1, .ref q), (2, .int (nI (b0 + p0))), (3, .int (nI (L.length - p0))), (4, .int (nI k))]) hx hb d_Mo_look_106 hl (by decide) rfl (fun ls hl => ?_)
          refine lv_iconst (v := 1) hx hb d_Mo_look_108 (by decide) ?_
          refine lv_istore (lv' := [(8, .int 1), (7, .int (by_z (lk_i L p0 k 0))), (6, .int (nI (lk_c L p0 k 0))), (5, .int (nI (L.getD p0 0))), (0, .ref mo), (1, .ref q), (2, .int (nI (b0 + p0))), (3, .int (nI (L.length - p0))), (4, .int (nI k))]) hx hb d_Mo_look_109 hl (by decide) rfl (fun ls hl => ?_)
          refine zz_loop (fun (x : Nat) H locs ls => match x with | i0 => va_P (dC, dI) vwCl [(mo, .inr (8, [.int th, .int fd, .ref rt, .int mn, .ref rk, .ref rv, .ref rw, .ref ro, .int md, .ref rr, .int pt, .ref ra, .long pz, .int kc, .ref rc, .ref rl, .ref rb, .int (nI (lk_A (ut_at L p0) k)), .int (nI (lk_B (ut_at L p0) k))])), (q, .inl (cB, sz, .inl gq))] H ∧ va_D A [(mo, .inr (8, [.int th, .int fd, .ref rt, .int mn, .ref rk, .ref rv, .ref rw, .ref ro, .int md, .ref rr, .int pt, .ref ra, .long pz, .int kc, .ref rc, .ref rl, .ref rb, .int (nI (lk_A (ut_at L p0) k)), .int (nI (lk_B (ut_at L p0) k))])), (q, .inl (cB, sz, .inl gq))] ∧ va_S A s.heap H locs ∧ lv_has ls 9 [(0, .ref mo), (1, .ref q), (2, .int (nI (b0 + p0))), (3, .int (nI (L.length - p0))), (4, .int (nI k)), (6, .int (nI (lk_c L p0 k i0))), (7, .int (by_z (lk_i L p0 k i0))), (8, .int (nI (i0 + 1)))] ∧ i0 + 1 ≤ k) (fun x => match x with | i0 => k - i0) ?_ 0 ⟨hP.sub [0, 1] rfl, hD.sub [0, 1] (by decide) rfl, hS, lv_sub hl [4, 5, 6, 7, 8, 2, 1, 0] rfl, hk1⟩
          intro x H locs ls hI ih_111
          obtain ⟨i0, rfl⟩ : ∃ z, z = x := ⟨_, rfl⟩
          try dsimp only at hI
          obtain ⟨hP, hD, hS, hl, hi0⟩ := hI
          refine lv_iload hx hb d_Mo_look_111 (lv_at hl 7 rfl) ?_
          refine lv_iload hx hb d_Mo_look_113 (lv_at hl 4 rfl) ?_
          refine lv_icmp_ge (tgt := 169) hx hb d_Mo_look_115 (by decide) (fun c_115 => ?_) (fun c_115 => ?_)
          · skip
            have f_115 : k ≤ (i0 + 1) := Nat.le_of_not_lt (fun z => nI_ge (b := k) z (by omega) c_115)
            have hie : i0 = k - 1 := by omega
            rw [hie] at hl
            refine lv_iload hx hb d_Mo_look_169 (lv_at hl 4 rfl) ?_
            refine lv_iconst (v := 1) hx hb d_Mo_look_171 (by decide) ?_
            refine lv_icmp_ne (tgt := 179) hx hb d_Mo_look_172 (by decide) (fun c9 => by first | exact absurd c9 c_38 | exact absurd c_38 c9) (fun _ => ?_)
            refine lv_iconst (v := 0) hx hb d_Mo_look_175 (by decide) ?_
            refine lv_goto (tgt := 205) hx hb d_Mo_look_176 (by decide) ?_
            refine lv_istore (lv' := [(8, .int 0), (0, .ref mo), (1, .ref q), (2, .int (nI (b0 + p0))), (3, .int (nI (L.length - p0))), (4, .int (nI k)), (6, .int (nI (lk_c L p0 k (k - 1)))), (7, .int (by_z (lk_i L p0 k (k - 1))))]) hx hb d_Mo_look_205 hl (by decide) rfl (fun ls hl => ?_)
            refine lv_iload hx hb d_Mo_look_207 (lv_at hl 7 rfl) ?_
            refine lv_if_eq (tgt := 243) hx hb d_Mo_look_209 (by decide) (fun c_209 => ?_) (fun c_209 => ?_)
            · skip
              refine lv_iinc (v := (nI k) + 1) (lv' := [(4, .int ((nI k) + 1)), (8, .int 0), (0, .ref mo), (1, .ref q), (2, .int (nI (b0 + p0))), (3, .int (nI (L.length - p0))), (6, .int (nI (lk_c L p0 k (k - 1)))), (7, .int (by_z (lk_i L p0 k (k - 1))))]) hx hb d_Mo_look_243 hl (k := 5) rfl rfl (by decide) rfl (fun ls hl => ?_)
              refine lv_goto (tgt := 14) hx hb d_Mo_look_246 (by decide) ?_
              have hso := lk_no (o := (ut_at L p0)) (k := k) (fun c9 hc9 hk9 => absurd (lk_inv hc9 hk9).1 (by rw [by_z_f rfl c_209]; decide))
              rw [hso.1, hso.2] at hP hD
              rw [nI_1] at hl
              exact ih_14 (k + 1) H locs ls ⟨hP.sub [0, 1] rfl, hD.sub [0, 1] (by decide) rfl, hS, lv_sub hl [2, 3, 4, 5, 0] rfl, (by omega), (by omega)⟩ (by dsimp only; omega)
            · skip
              have hlk1 := by_z_t rfl c_209
              have hcb := lk_b3 (k := k) (i := k - 1) hb9 (by omega)
              refine lv_iload hx hb d_Mo_look_212 (lv_at hl 6 rfl) ?_
              refine lv_iload hx hb d_Mo_look_214 (lv_at hl 0 rfl) ?_
              refine lv_icmp_lt (tgt := 243) hx hb d_Mo_look_216 (by decide) (fun c_216 => ?_) (fun c_216 => ?_)
              · skip
                have f_216 : (lk_c L p0 k (k - 1)) < 0 := (nI_ltI (b := 0) (by omega) (by omega)).mp c_216
                refine lv_iinc (v := (nI k) + 1) (lv' := [(4, .int ((nI k) + 1)), (8, .int 0), (0, .ref mo), (1, .ref q), (2, .int (nI (b0 + p0))), (3, .int (nI (L.length - p0))), (6, .int (nI (lk_c L p0 k (k - 1)))), (7, .int (by_z (lk_i L p0 k (k - 1))))]) hx hb d_Mo_look_243 hl (k := 5) rfl rfl (by decide) rfl (fun ls hl => ?_)
                refine lv_goto (tgt := 14) hx hb d_Mo_look_246 (by decide) ?_
                have hso := lk_no (o := (ut_at L p0)) (k := k) (fun c9 hc9 hk9 => absurd (lk_inv hc9 hk9).2.1 (by rw [show lk_l k = 0 by rw [f_38]; rfl]; omega))
                rw [hso.1, hso.2] at hP hD
                rw [nI_1] at hl
                exact ih_14 (k + 1) H locs ls ⟨hP.sub [0, 1] rfl, hD.sub [0, 1] (by decide) rfl, hS, lv_sub hl [2, 3, 4, 5, 0] rfl, (by omega), (by omega)⟩ (by dsimp only; omega)
              · skip
                have f_216 : 0 ≤ (lk_c L p0 k (k - 1)) := Nat.le_of_not_lt (fun z => c_216 (nI_lt (b := 0) z (by omega)))
                have hlk2 : lk_l k ≤ (lk_c L p0 k (k - 1)) := by rw [show lk_l k = 0 by rw [f_38]; rfl]; omega
                refine lv_iload hx hb d_Mo_look_219 (lv_at hl 6 rfl) ?_
                refine lv_i2l hx hb d_Mo_look_221 rfl ?_
                have hPc := hP.sub (ws' := []) [] rfl
                have hKc := hK.sub (tys' := []) [] rfl
                refine vp_callSi (W.runS (As := [.long ((nI (lk_c L p0 k (k - 1))).toInt64)]) (rest := []) ⟨hx, hb, hml, hown, hg⟩ (c_Mo_isCode l dC dI ((nI (lk_c L p0 k (k - 1))).toInt64) ) (va_cwS 1 hg (gi_S kw_834 kw_835 kw_9 kw_836) rfl rfl rfl (by decide +kernel) ⟨Nat.le_of_ble_eq_true rfl, Nat.le_of_ble_eq_true rfl⟩) (zz_prJS hPc hKc _) rfl rfl hl.1 rfl (lv_room (Nat.le_of_ble_eq_true rfl)) d_Mo_look_222 ⟨Nat.le_of_ble_eq_true rfl, Nat.le_of_ble_eq_true rfl⟩) (fun r_48 hr_48 => ?_)
                rw [ut_tl (by omega)] at hr_48
                refine lv_if_ne (tgt := 231) hx hb d_Mo_look_225 (by decide) (fun c_225 => ?_) (fun c_225 => ?_)
                · skip
                  have hlk3 := by_z_t hr_48 c_225
                  refine lv_aload_n hx hb d_Mo_look_231 rfl (lv_at hl 1 rfl) ?_
                  refine lv_iload hx hb d_Mo_look_232 (lv_at hl 5 rfl) ?_
                  refine va_put (D := (dC, dI)) (ci := 8) (v := .int (nI k)) (ty := .int) (C := "TextForgeModel") (T := TX8) (N := 19) hx hb hg iwX8 tyX8 tyX8_ok nmX8 hown hK hP hD hS 0 rfl rfl 17 (by decide) (hg _ kw_743) (fun _ h9 => h9) rfl (by decide +kernel) rfl rfl (Nat.le_of_ble_eq_true rfl) d_Mo_look_234 (fun H locs hP hD hS => ?_)
                  have hP : va_P (dC, dI) vwCl [(mo, .inr (8, [.int th, .int fd, .ref rt, .int mn, .ref rk, .ref rv, .ref rw, .ref ro, .int md, .ref rr, .int pt, .ref ra, .long pz, .int kc, .ref rc, .ref rl, .ref rb, .int (nI k), .int (nI (lk_B (ut_at L p0) k))])), (q, .inl (cB, sz, .inl gq))] H := hP
                  have hD : va_D A [(mo, .inr (8, [.int th, .int fd, .ref rt, .int mn, .ref rk, .ref rv, .ref rw, .ref ro, .int md, .ref rr, .int pt, .ref ra, .long pz, .int kc, .ref rc, .ref rl, .ref rb, .int (nI k), .int (nI (lk_B (ut_at L p0) k))])), (q, .inl (cB, sz, .inl gq))] := hD
                  refine lv_aload_n hx hb d_Mo_look_237 rfl (lv_at hl 1 rfl) ?_
                  refine lv_iload hx hb d_Mo_look_238 (lv_at hl 6 rfl) ?_
                  refine va_put (D := (dC, dI)) (ci := 8) (v := .int (nI (lk_c L p0 k (k - 1)))) (ty := .int) (C := "TextForgeModel") (T := TX8) (N := 19) hx hb hg iwX8 tyX8 tyX8_ok nmX8 hown hK hP hD hS 0 rfl rfl 18 (by decide) (hg _ kw_744) (fun _ h9 => h9) rfl (by decide +kernel) rfl rfl (Nat.le_of_ble_eq_true rfl) d_Mo_look_240 (fun H locs hP hD hS => ?_)
                  have hP : va_P (dC, dI) vwCl [(mo, .inr (8, [.int th, .int fd, .ref rt, .int mn, .ref rk, .ref rv, .ref rw, .ref ro, .int md, .ref rr, .int pt, .ref ra, .long pz, .int kc, .ref rc, .ref rl, .ref rb, .int (nI k), .int (nI (lk_c L p0 k (k - 1)))])), (q, .inl (cB, sz, .inl gq))] H := hP
                  have hD : va_D A [(mo, .inr (8, [.int th, .int fd, .ref rt, .int mn, .ref rk, .ref rv, .ref rw, .ref ro, .int md, .ref rr, .int pt, .ref ra, .long pz, .int kc, .ref rc, .ref rl, .ref rb, .int (nI k), .int (nI (lk_c L p0 k (k - 1)))])), (q, .inl (cB, sz, .inl gq))] := hD
                  refine lv_iinc (v := (nI k) + 1) (lv' := [(4, .int ((nI k) + 1)), (8, .int 0), (0, .ref mo), (1, .ref q), (2, .int (nI (b0 + p0))), (3, .int (nI (L.length - p0))), (6, .int (nI (lk_c L p0 k (k - 1)))), (7, .int (by_z (lk_i L p0 k (k - 1))))]) hx hb d_Mo_look_243 hl (k := 5) rfl rfl (by decide) rfl (fun ls hl => ?_)
                  refine lv_goto (tgt := 14) hx hb d_Mo_look_246 (by decide) ?_
                  have hso := lk_so (lk_yes ⟨hk1, by omega⟩ (by omega) hb9 hlk1 hlk2 hlk3)
                  rw [show Value.int (nI k) = Value.int (nI (lk_A (ut_at L p0) (k + 1))) by rw [← hso.1], show Value.int (nI (lk_c L p0 k (k - 1))) = Value.int (nI (lk_B (ut_at L p0) (k + 1))) by rw [← hso.2]] at hP hD
                  rw [nI_1] at hl
                  exact ih_14 (k + 1) H locs ls ⟨hP.sub [0, 1] rfl, hD.sub [0, 1] (by decide) rfl, hS, lv_sub hl [2, 3, 4, 5, 0] rfl, (by omega), (by omega)⟩ (by dsimp only; omega)
                · skip
                  refine lv_goto (tgt := 243) hx hb d_Mo_look_228 (by decide) ?_
                  refine lv_iinc (v := (nI k) + 1) (lv' := [(4, .int ((nI k) + 1)), (8, .int 0), (0, .ref mo), (1, .ref q), (2, .int (nI (b0 + p0))), (3, .int (nI (L.length - p0))), (6, .int (nI (lk_c L p0 k (k - 1)))), (7, .int (by_z (lk_i L p0 k (k - 1))))]) hx hb d_Mo_look_243 hl (k := 5) rfl rfl (by decide) rfl (fun ls hl => ?_)
                  refine lv_goto (tgt := 14) hx hb d_Mo_look_246 (by decide) ?_
                  have hso := lk_no (o := (ut_at L p0)) (k := k) (fun c9 hc9 hk9 => absurd (lk_inv hc9 hk9).2.2 (by rw [by_z_f hr_48 c_225]; decide))
                  rw [hso.1, hso.2] at hP hD
                  rw [nI_1] at hl
                  exact ih_14 (k + 1) H locs ls ⟨hP.sub [0, 1] rfl, hD.sub [0, 1] (by decide) rfl, hS, lv_sub hl [2, 3, 4, 5, 0] rfl, (by omega), (by omega)⟩ (by dsimp only; omega)
          · skip
            have f_115 : (i0 + 1) < k := Nat.lt_of_not_le (fun z => c_115 (nI_le (a := k) z (by omega)))
            have hbi := hLq (p0 + (i0 + 1)) (by omega)
            refine lv_iload hx hb d_Mo_look_118 (lv_at hl 6 rfl) ?_
            refine lv_if_eq (tgt := 143) hx hb d_Mo_look_120 (by decide) (fun c_120 => ?_) (fun c_120 => ?_)
            · skip
              refine lv_iconst (v := 0) hx hb d_Mo_look_143 (by decide) ?_
              refine lv_topi (fun y_49 ey_49 => ?_)
              have ey_49 : y_49 = (by_z (lk_i L p0 k (i0 + 1)) : Int32) := ey_49.trans (show 0 = by_z (lk_i L p0 k (i0 + 1)) from (by rw [lk_i, by_z_f rfl c_120]; rfl))
              subst ey_49
              refine lv_istore (lv' := [(7, .int (by_z (lk_i L p0 k (i0 + 1)))), (0, .ref mo), (1, .ref q), (2, .int (nI (b0 + p0))), (3, .int (nI (L.length - p0))), (4, .int (nI k)), (6, .int (nI (lk_c L p0 k i0))), (8, .int (nI (i0 + 1)))]) hx hb d_Mo_look_144 hl (by decide) rfl (fun ls hl => ?_)
              refine lv_iload hx hb d_Mo_look_146 (lv_at hl 6 rfl) ?_
              refine lv_bipush (v := 6) hx hb d_Mo_look_148 (by decide) ?_
              refine lv_ishl hx hb d_Mo_look_150 ?_
              refine lv_aload_n hx hb d_Mo_look_151 rfl (lv_at hl 2 rfl) ?_
              refine lv_iload_n hx hb d_Mo_look_152 rfl (lv_at hl 3 rfl) ?_
              refine lv_iload hx hb d_Mo_look_153 (lv_at hl 7 rfl) ?_
              refine lv_iadd hx hb d_Mo_look_155 ?_
              refine lv_topi (fun y_50 ey_50 => ?_)
              have ey_50 : y_50 = (nI (b0 + (p0 + (i0 + 1))) : Int32) := ey_50.trans (show ((nI (b0 + p0)) + (nI (i0 + 1))) = nI (b0 + (p0 + (i0 + 1))) from (by rw [nI_add, Nat.add_assoc]))
              subst ey_50
              refine va_bald hx hb hK hP 1 0 rfl rfl (vp_in_nI (by omega) (by omega)) d_Mo_look_156 ?_
              refine lv_topi (fun y_51 ey_51 => ?_)
              have ey_51 : y_51 = (sb_b (L.getD (p0 + (i0 + 1)) 0) : Int32) := ey_51.trans (show (gq (nI (b0 + (p0 + (i0 + 1)))).toNatClampNeg) = sb_b (L.getD (p0 + (i0 + 1)) 0) from (by rw [nI_clamp (show b0 + (p0 + (i0 + 1)) < 2 ^ 31 by omega)]; exact hbi.2))
              subst ey_51
              refine lv_bipush (v := 63) hx hb d_Mo_look_157 (by decide) ?_
              refine lv_iand hx hb d_Mo_look_159 ?_
              refine lv_topi (fun y_52 ey_52 => ?_)
              have ey_52 : y_52 = (nI (L.getD (p0 + (i0 + 1)) 0 % 64) : Int32) := ey_52.trans (show ((sb_b (L.getD (p0 + (i0 + 1)) 0)) &&& 63) = nI (L.getD (p0 + (i0 + 1)) 0 % 64) from (sb_63 _ hbi.1))
              subst ey_52
              refine lv_ior hx hb d_Mo_look_160 ?_
              refine lv_topi (fun y_53 ey_53 => ?_)
              have ey_53 : y_53 = (nI (lk_c L p0 k (i0 + 1)) : Int32) := ey_53.trans (show (((nI (lk_c L p0 k i0)) <<< ((6 : Int32) &&& 31)) ||| (nI (L.getD (p0 + (i0 + 1)) 0 % 64))) = nI (lk_c L p0 k (i0 + 1)) from (lk_sh (lk_b2 hb9 (by omega)) (Nat.mod_lt _ (by decide))))
              subst ey_53
              refine lv_istore (lv' := [(6, .int (nI (lk_c L p0 k (i0 + 1)))), (7, .int (by_z (lk_i L p0 k (i0 + 1)))), (0, .ref mo), (1, .ref q), (2, .int (nI (b0 + p0))), (3, .int (nI (L.length - p0))), (4, .int (nI k)), (8, .int (nI (i0 + 1)))]) hx hb d_Mo_look_161 hl (by decide) rfl (fun ls hl => ?_)
              refine lv_iinc (v := (nI (i0 + 1)) + 1) (lv' := [(8, .int ((nI (i0 + 1)) + 1)), (6, .int (nI (lk_c L p0 k (i0 + 1)))), (7, .int (by_z (lk_i L p0 k (i0 + 1)))), (0, .ref mo), (1, .ref q), (2, .int (nI (b0 + p0))), (3, .int (nI (L.length - p0))), (4, .int (nI k))]) hx hb d_Mo_look_163 hl (k := 7) rfl rfl (by decide) rfl (fun ls hl => ?_)
              refine lv_goto (tgt := 111) hx hb d_Mo_look_166 (by decide) ?_
              rw [nI_1] at hl
              exact ih_111 (i0 + 1) H locs ls ⟨hP.sub [0, 1] rfl, hD.sub [0, 1] (by decide) rfl, hS, lv_sub hl [3, 4, 5, 6, 7, 1, 2, 0] rfl, f_115⟩ (by dsimp only; omega)
            · skip
              refine lv_aload_n hx hb d_Mo_look_123 rfl (lv_at hl 1 rfl) ?_
              refine lv_iload_n hx hb d_Mo_look_124 rfl (lv_at hl 2 rfl) ?_
              refine lv_iload hx hb d_Mo_look_125 (lv_at hl 7 rfl) ?_
              refine lv_iadd hx hb d_Mo_look_127 ?_
              refine lv_topi (fun y_54 ey_54 => ?_)
              have ey_54 : y_54 = (nI (b0 + (p0 + (i0 + 1))) : Int32) := ey_54.trans (show ((nI (b0 + p0)) + (nI (i0 + 1))) = nI (b0 + (p0 + (i0 + 1))) from (by rw [nI_add, Nat.add_assoc]))
              subst ey_54
              refine va_bald hx hb hK hP 1 0 rfl rfl (vp_in_nI (by omega) (by omega)) d_Mo_look_128 ?_
              refine lv_topi (fun y_55 ey_55 => ?_)
              have ey_55 : y_55 = (sb_b (L.getD (p0 + (i0 + 1)) 0) : Int32) := ey_55.trans (show (gq (nI (b0 + (p0 + (i0 + 1)))).toNatClampNeg) = sb_b (L.getD (p0 + (i0 + 1)) 0) from (by rw [nI_clamp (show b0 + (p0 + (i0 + 1)) < 2 ^ 31 by omega)]; exact hbi.2))
              subst ey_55
              refine lv_sipush (v := 192) hx hb d_Mo_look_129 (by decide) ?_
              refine lv_iand hx hb d_Mo_look_132 ?_
              refine lv_sipush (v := 128) hx hb d_Mo_look_133 (by decide) ?_
              refine lv_icmp_ne (tgt := 143) hx hb d_Mo_look_136 (by decide) (fun c_136 => ?_) (fun c_136 => ?_)
              · skip
                refine lv_iconst (v := 0) hx hb d_Mo_look_143 (by decide) ?_
                refine lv_topi (fun y_56 ey_56 => ?_)
                have ey_56 : y_56 = (by_z (lk_i L p0 k (i0 + 1)) : Int32) := ey_56.trans (show 0 = by_z (lk_i L p0 k (i0 + 1)) from (by rw [lk_i, by_z_t rfl c_120, decide_eq_false (fun z => c_136 ((sb_192 _ hbi.1).mpr z))]; rfl))
                subst ey_56
                refine lv_istore (lv' := [(7, .int (by_z (lk_i L p0 k (i0 + 1)))), (0, .ref mo), (1, .ref q), (2, .int (nI (b0 + p0))), (3, .int (nI (L.length - p0))), (4, .int (nI k)), (6, .int (nI (lk_c L p0 k i0))), (8, .int (nI (i0 + 1)))]) hx hb d_Mo_look_144 hl (by decide) rfl (fun ls hl => ?_)
                refine lv_iload hx hb d_Mo_look_146 (lv_at hl 6 rfl) ?_
                refine lv_bipush (v := 6) hx hb d_Mo_look_148 (by decide) ?_
                refine lv_ishl hx hb d_Mo_look_150 ?_
                refine lv_aload_n hx hb d_Mo_look_151 rfl (lv_at hl 2 rfl) ?_
                refine lv_iload_n hx hb d_Mo_look_152 rfl (lv_at hl 3 rfl) ?_
                refine lv_iload hx hb d_Mo_look_153 (lv_at hl 7 rfl) ?_
                refine lv_iadd hx hb d_Mo_look_155 ?_
                refine lv_topi (fun y_57 ey_57 => ?_)
                have ey_57 : y_57 = (nI (b0 + (p0 + (i0 + 1))) : Int32) := ey_57.trans (show ((nI (b0 + p0)) + (nI (i0 + 1))) = nI (b0 + (p0 + (i0 + 1))) from (by rw [nI_add, Nat.add_assoc]))
                subst ey_57
                refine va_bald hx hb hK hP 1 0 rfl rfl (vp_in_nI (by omega) (by omega)) d_Mo_look_156 ?_
                refine lv_topi (fun y_58 ey_58 => ?_)
                have ey_58 : y_58 = (sb_b (L.getD (p0 + (i0 + 1)) 0) : Int32) := ey_58.trans (show (gq (nI (b0 + (p0 + (i0 + 1)))).toNatClampNeg) = sb_b (L.getD (p0 + (i0 + 1)) 0) from (by rw [nI_clamp (show b0 + (p0 + (i0 + 1)) < 2 ^ 31 by omega)]; exact hbi.2))
                subst ey_58
                refine lv_bipush (v := 63) hx hb d_Mo_look_157 (by decide) ?_
                refine lv_iand hx hb d_Mo_look_159 ?_
                refine lv_topi (fun y_59 ey_59 => ?_)
                have ey_59 : y_59 = (nI (L.getD (p0 + (i0 + 1)) 0 % 64) : Int32) := ey_59.trans (show ((sb_b (L.getD (p0 + (i0 + 1)) 0)) &&& 63) = nI (L.getD (p0 + (i0 + 1)) 0 % 64) from (sb_63 _ hbi.1))
                subst ey_59
                refine lv_ior hx hb d_Mo_look_160 ?_
                refine lv_topi (fun y_60 ey_60 => ?_)
                have ey_60 : y_60 = (nI (lk_c L p0 k (i0 + 1)) : Int32) := ey_60.trans (show (((nI (lk_c L p0 k i0)) <<< ((6 : Int32) &&& 31)) ||| (nI (L.getD (p0 + (i0 + 1)) 0 % 64))) = nI (lk_c L p0 k (i0 + 1)) from (lk_sh (lk_b2 hb9 (by omega)) (Nat.mod_lt _ (by decide))))
                subst ey_60
                refine lv_istore (lv' := [(6, .int (nI (lk_c L p0 k (i0 + 1)))), (7, .int (by_z (lk_i L p0 k (i0 + 1)))), (0, .ref mo), (1, .ref q), (2, .int (nI (b0 + p0))), (3, .int (nI (L.length - p0))), (4, .int (nI k)), (8, .int (nI (i0 + 1)))]) hx hb d_Mo_look_161 hl (by decide) rfl (fun ls hl => ?_)
                refine lv_iinc (v := (nI (i0 + 1)) + 1) (lv' := [(8, .int ((nI (i0 + 1)) + 1)), (6, .int (nI (lk_c L p0 k (i0 + 1)))), (7, .int (by_z (lk_i L p0 k (i0 + 1)))), (0, .ref mo), (1, .ref q), (2, .int (nI (b0 + p0))), (3, .int (nI (L.length - p0))), (4, .int (nI k))]) hx hb d_Mo_look_163 hl (k := 7) rfl rfl (by decide) rfl (fun ls hl => ?_)
                refine lv_goto (tgt := 111) hx hb d_Mo_look_166 (by decide) ?_
                rw [nI_1] at hl
                exact ih_111 (i0 + 1) H locs ls ⟨hP.sub [0, 1] rfl, hD.sub [0, 1] (by decide) rfl, hS, lv_sub hl [3, 4, 5, 6, 7, 1, 2, 0] rfl, f_115⟩ (by dsimp only; omega)
              · skip
                refine lv_iconst (v := 1) hx hb d_Mo_look_139 (by decide) ?_
                refine lv_goto (tgt := 144) hx hb d_Mo_look_140 (by decide) ?_
                refine lv_topi (fun y_61 ey_61 => ?_)
                have ey_61 : y_61 = (by_z (lk_i L p0 k (i0 + 1)) : Int32) := ey_61.trans (show 1 = by_z (lk_i L p0 k (i0 + 1)) from (by rw [lk_i, by_z_t rfl c_120, decide_eq_true ((sb_192 _ hbi.1).mp c_136)]; rfl))
                subst ey_61
                refine lv_istore (lv' := [(7, .int (by_z (lk_i L p0 k (i0 + 1)))), (0, .ref mo), (1, .ref q), (2, .int (nI (b0 + p0))), (3, .int (nI (L.length - p0))), (4, .int (nI k)), (6, .int (nI (lk_c L p0 k i0))), (8, .int (nI (i0 + 1)))]) hx hb d_Mo_look_144 hl (by decide) rfl (fun ls hl => ?_)
                refine lv_iload hx hb d_Mo_look_146 (lv_at hl 6 rfl) ?_
                refine lv_bipush (v := 6) hx hb d_Mo_look_148 (by decide) ?_
                refine lv_ishl hx hb d_Mo_look_150 ?_
                refine lv_aload_n hx hb d_Mo_look_151 rfl (lv_at hl 2 rfl) ?_
                refine lv_iload_n hx hb d_Mo_look_152 rfl (lv_at hl 3 rfl) ?_
                refine lv_iload hx hb d_Mo_look_153 (lv_at hl 7 rfl) ?_
                refine lv_iadd hx hb d_Mo_look_155 ?_
                refine lv_topi (fun y_62 ey_62 => ?_)
                have ey_62 : y_62 = (nI (b0 + (p0 + (i0 + 1))) : Int32) := ey_62.trans (show ((nI (b0 + p0)) + (nI (i0 + 1))) = nI (b0 + (p0 + (i0 + 1))) from (by rw [nI_add, Nat.add_assoc]))
                subst ey_62
                refine va_bald hx hb hK hP 1 0 rfl rfl (vp_in_nI (by omega) (by omega)) d_Mo_look_156 ?_
                refine lv_topi (fun y_63 ey_63 => ?_)
                have ey_63 : y_63 = (sb_b (L.getD (p0 + (i0 + 1)) 0) : Int32) := ey_63.trans (show (gq (nI (b0 + (p0 + (i0 + 1)))).toNatClampNeg) = sb_b (L.getD (p0 + (i0 + 1)) 0) from (by rw [nI_clamp (show b0 + (p0 + (i0 + 1)) < 2 ^ 31 by omega)]; exact hbi.2))
                subst ey_63
                refine lv_bipush (v := 63) hx hb d_Mo_look_157 (by decide) ?_
                refine lv_iand hx hb d_Mo_look_159 ?_
                refine lv_topi (fun y_64 ey_64 => ?_)
                have ey_64 : y_64 = (nI (L.getD (p0 + (i0 + 1)) 0 % 64) : Int32) := ey_64.trans (show ((sb_b (L.getD (p0 + (i0 + 1)) 0)) &&& 63) = nI (L.getD (p0 + (i0 + 1)) 0 % 64) from (sb_63 _ hbi.1))
                subst ey_64
                refine lv_ior hx hb d_Mo_look_160 ?_
                refine lv_topi (fun y_65 ey_65 => ?_)
                have ey_65 : y_65 = (nI (lk_c L p0 k (i0 + 1)) : Int32) := ey_65.trans (show (((nI (lk_c L p0 k i0)) <<< ((6 : Int32) &&& 31)) ||| (nI (L.getD (p0 + (i0 + 1)) 0 % 64))) = nI (lk_c L p0 k (i0 + 1)) from (lk_sh (lk_b2 hb9 (by omega)) (Nat.mod_lt _ (by decide))))
                subst ey_65
                refine lv_istore (lv' := [(6, .int (nI (lk_c L p0 k (i0 + 1)))), (7, .int (by_z (lk_i L p0 k (i0 + 1)))), (0, .ref mo), (1, .ref q), (2, .int (nI (b0 + p0))), (3, .int (nI (L.length - p0))), (4, .int (nI k)), (8, .int (nI (i0 + 1)))]) hx hb d_Mo_look_161 hl (by decide) rfl (fun ls hl => ?_)
                refine lv_iinc (v := (nI (i0 + 1)) + 1) (lv' := [(8, .int ((nI (i0 + 1)) + 1)), (6, .int (nI (lk_c L p0 k (i0 + 1)))), (7, .int (by_z (lk_i L p0 k (i0 + 1)))), (0, .ref mo), (1, .ref q), (2, .int (nI (b0 + p0))), (3, .int (nI (L.length - p0))), (4, .int (nI k))]) hx hb d_Mo_look_163 hl (k := 7) rfl rfl (by decide) rfl (fun ls hl => ?_)
                refine lv_goto (tgt := 111) hx hb d_Mo_look_166 (by decide) ?_
                rw [nI_1] at hl
                exact ih_111 (i0 + 1) H locs ls ⟨hP.sub [0, 1] rfl, hD.sub [0, 1] (by decide) rfl, hS, lv_sub hl [3, 4, 5, 6, 7, 1, 2, 0] rfl, f_115⟩ (by dsimp only; omega)
        · skip
          have f_71 : L.getD p0 0 < 128 := Nat.lt_of_not_le (fun z => c_71 (nI_le (a := 128) z (by omega)))
          refine lv_iconst (v := 1) hx hb d_Mo_look_74 (by decide) ?_
          refine lv_goto (tgt := 106) hx hb d_Mo_look_75 (by decide) ?_
          refine lv_topi (fun y_66 ey_66 => ?_)
          have ey_66 : y_66 = (by_z (lk_i L p0 k 0) : Int32) := ey_66.trans (show 1 = by_z (lk_i L p0 k 0) from (by rw [lk_i, if_pos f_38, decide_eq_true f_71]; rfl))
          subst ey_66
          refine lv_istore (lv' := [(7, .int (by_z (lk_i L p0 k 0))), (6, .int (nI (lk_c L p0 k 0))), (5, .int (nI (L.getD p0 0))), (0, .ref mo), (1, .ref q), (2, .int (nI (b0 + p0))), (3, .int (nI (L.length - p0))), (4, .int (nI k))]) hx hb d_Mo_look_106 hl (by decide) rfl (fun ls hl => ?_)
          refine lv_iconst (v := 1) hx hb d_Mo_look_108 (by decide) ?_
          refine lv_istore (lv' := [(8, .int 1), (7, .int (by_z (lk_i L p0 k 0))), (6, .int (nI (lk_c L p0 k 0))), (5, .int (nI (L.getD p0 0))), (0, .ref mo), (1, .ref q), (2, .int (nI (b0 + p0))), (3, .int (nI (L.length - p0))), (4, .int (nI k))]) hx hb d_Mo_look_109 hl (by decide) rfl (fun ls hl => ?_)
          refine zz_loop (fun (x : Nat) H locs ls => match x with | i0 => va_P (dC, dI) vwCl [(mo, .inr (8, [.int th, .int fd, .ref rt, .int mn, .ref rk, .ref rv, .ref rw, .ref ro, .int md, .ref rr, .int pt, .ref ra, .long pz, .int kc, .ref rc, .ref rl, .ref rb, .int (nI (lk_A (ut_at L p0) k)), .int (nI (lk_B (ut_at L p0) k))])), (q, .inl (cB, sz, .inl gq))] H ∧ va_D A [(mo, .inr (8, [.int th, .int fd, .ref rt, .int mn, .ref rk, .ref rv, .ref rw, .ref ro, .int md, .ref rr, .int pt, .ref ra, .long pz, .int kc, .ref rc, .ref rl, .ref rb, .int (nI (lk_A (ut_at L p0) k)), .int (nI (lk_B (ut_at L p0) k))])), (q, .inl (cB, sz, .inl gq))] ∧ va_S A s.heap H locs ∧ lv_has ls 9 [(0, .ref mo), (1, .ref q), (2, .int (nI (b0 + p0))), (3, .int (nI (L.length - p0))), (4, .int (nI k)), (6, .int (nI (lk_c L p0 k i0))), (7, .int (by_z (lk_i L p0 k i0))), (8, .int (nI (i0 + 1)))] ∧ i0 + 1 ≤ k) (fun x => match x with | i0 => k - i0) ?_ 0 ⟨hP.sub [0, 1] rfl, hD.sub [0, 1] (by decide) rfl, hS, lv_sub hl [4, 5, 6, 7, 8, 2, 1, 0] rfl, hk1⟩
          intro x H locs ls hI ih_111
          obtain ⟨i0, rfl⟩ : ∃ z, z = x := ⟨_, rfl⟩
          try dsimp only at hI
          obtain ⟨hP, hD, hS, hl, hi0⟩ := hI
          refine lv_iload hx hb d_Mo_look_111 (lv_at hl 7 rfl) ?_
          refine lv_iload hx hb d_Mo_look_113 (lv_at hl 4 rfl) ?_
          refine lv_icmp_ge (tgt := 169) hx hb d_Mo_look_115 (by decide) (fun c_115 => ?_) (fun c_115 => ?_)
          · skip
            have f_115 : k ≤ (i0 + 1) := Nat.le_of_not_lt (fun z => nI_ge (b := k) z (by omega) c_115)
            have hie : i0 = k - 1 := by omega
            rw [hie] at hl
            refine lv_iload hx hb d_Mo_look_169 (lv_at hl 4 rfl) ?_
            refine lv_iconst (v := 1) hx hb d_Mo_look_171 (by decide) ?_
            refine lv_icmp_ne (tgt := 179) hx hb d_Mo_look_172 (by decide) (fun c9 => by first | exact absurd c9 c_38 | exact absurd c_38 c9) (fun _ => ?_)
            refine lv_iconst (v := 0) hx hb d_Mo_look_175 (by decide) ?_
            refine lv_goto (tgt := 205) hx hb d_Mo_look_176 (by decide) ?_
            refine lv_istore (lv' := [(8, .int 0), (0, .ref mo), (1, .ref q), (2, .int (nI (b0 + p0))), (3, .int (nI (L.length - p0))), (4, .int (nI k)), (6, .int (nI (lk_c L p0 k (k - 1)))), (7, .int (by_z (lk_i L p0 k (k - 1))))]) hx hb d_Mo_look_205 hl (by decide) rfl (fun ls hl => ?_)
            refine lv_iload hx hb d_Mo_look_207 (lv_at hl 7 rfl) ?_
            refine lv_if_eq (tgt := 243) hx hb d_Mo_look_209 (by decide) (fun c_209 => ?_) (fun c_209 => ?_)
            · skip
              refine lv_iinc (v := (nI k) + 1) (lv' := [(4, .int ((nI k) + 1)), (8, .int 0), (0, .ref mo), (1, .ref q), (2, .int (nI (b0 + p0))), (3, .int (nI (L.length - p0))), (6, .int (nI (lk_c L p0 k (k - 1)))), (7, .int (by_z (lk_i L p0 k (k - 1))))]) hx hb d_Mo_look_243 hl (k := 5) rfl rfl (by decide) rfl (fun ls hl => ?_)
              refine lv_goto (tgt := 14) hx hb d_Mo_look_246 (by decide) ?_
              have hso := lk_no (o := (ut_at L p0)) (k := k) (fun c9 hc9 hk9 => absurd (lk_inv hc9 hk9).1 (by rw [by_z_f rfl c_209]; decide))
              rw [hso.1, hso.2] at hP hD
              rw [nI_1] at hl
              exact ih_14 (k + 1) H locs ls ⟨hP.sub [0, 1] rfl, hD.sub [0, 1] (by decide) rfl, hS, lv_sub hl [2, 3, 4, 5, 0] rfl, (by omega), (by omega)⟩ (by dsimp only; omega)
            · skip
              have hlk1 := by_z_t rfl c_209
              have hcb := lk_b3 (k := k) (i := k - 1) hb9 (by omega)
              refine lv_iload hx hb d_Mo_look_212 (lv_at hl 6 rfl) ?_
              refine lv_iload hx hb d_Mo_look_214 (lv_at hl 0 rfl) ?_
              refine lv_icmp_lt (tgt := 243) hx hb d_Mo_look_216 (by decide) (fun c_216 => ?_) (fun c_216 => ?_)
              · skip
                have f_216 : (lk_c L p0 k (k - 1)) < 0 := (nI_ltI (b := 0) (by omega) (by omega)).mp c_216
                refine lv_iinc (v := (nI k) + 1) (lv' := [(4, .int ((nI k) + 1)), (8, .int 0), (0, .ref mo), (1, .ref q), (2, .int (nI (b0 + p0))), (3, .int (nI (L.length - p0))), (6, .int (nI (lk_c L p0 k (k - 1)))), (7, .int (by_z (lk_i L p0 k (k - 1))))]) hx hb d_Mo_look_243 hl (k := 5) rfl rfl (by decide) rfl (fun ls hl => ?_)
                refine lv_goto (tgt := 14) hx hb d_Mo_look_246 (by decide) ?_
                have hso := lk_no (o := (ut_at L p0)) (k := k) (fun c9 hc9 hk9 => absurd (lk_inv hc9 hk9).2.1 (by rw [show lk_l k = 0 by rw [f_38]; rfl]; omega))
                rw [hso.1, hso.2] at hP hD
                rw [nI_1] at hl
                exact ih_14 (k + 1) H locs ls ⟨hP.sub [0, 1] rfl, hD.sub [0, 1] (by decide) rfl, hS, lv_sub hl [2, 3, 4, 5, 0] rfl, (by omega), (by omega)⟩ (by dsimp only; omega)
              · skip
                have f_216 : 0 ≤ (lk_c L p0 k (k - 1)) := Nat.le_of_not_lt (fun z => c_216 (nI_lt (b := 0) z (by omega)))
                have hlk2 : lk_l k ≤ (lk_c L p0 k (k - 1)) := by rw [show lk_l k = 0 by rw [f_38]; rfl]; omega
                refine lv_iload hx hb d_Mo_look_219 (lv_at hl 6 rfl) ?_
                refine lv_i2l hx hb d_Mo_look_221 rfl ?_
                have hPc := hP.sub (ws' := []) [] rfl
                have hKc := hK.sub (tys' := []) [] rfl
                refine vp_callSi (W.runS (As := [.long ((nI (lk_c L p0 k (k - 1))).toInt64)]) (rest := []) ⟨hx, hb, hml, hown, hg⟩ (c_Mo_isCode l dC dI ((nI (lk_c L p0 k (k - 1))).toInt64) ) (va_cwS 1 hg (gi_S kw_834 kw_835 kw_9 kw_836) rfl rfl rfl (by decide +kernel) ⟨Nat.le_of_ble_eq_true rfl, Nat.le_of_ble_eq_true rfl⟩) (zz_prJS hPc hKc _) rfl rfl hl.1 rfl (lv_room (Nat.le_of_ble_eq_true rfl)) d_Mo_look_222 ⟨Nat.le_of_ble_eq_true rfl, Nat.le_of_ble_eq_true rfl⟩) (fun r_67 hr_67 => ?_)
                rw [ut_tl (by omega)] at hr_67
                refine lv_if_ne (tgt := 231) hx hb d_Mo_look_225 (by decide) (fun c_225 => ?_) (fun c_225 => ?_)
                · skip
                  have hlk3 := by_z_t hr_67 c_225
                  refine lv_aload_n hx hb d_Mo_look_231 rfl (lv_at hl 1 rfl) ?_
                  refine lv_iload hx hb d_Mo_look_232 (lv_at hl 5 rfl) ?_
                  refine va_put (D := (dC, dI)) (ci := 8) (v := .int (nI k)) (ty := .int) (C := "TextForgeModel") (T := TX8) (N := 19) hx hb hg iwX8 tyX8 tyX8_ok nmX8 hown hK hP hD hS 0 rfl rfl 17 (by decide) (hg _ kw_743) (fun _ h9 => h9) rfl (by decide +kernel) rfl rfl (Nat.le_of_ble_eq_true rfl) d_Mo_look_234 (fun H locs hP hD hS => ?_)
                  have hP : va_P (dC, dI) vwCl [(mo, .inr (8, [.int th, .int fd, .ref rt, .int mn, .ref rk, .ref rv, .ref rw, .ref ro, .int md, .ref rr, .int pt, .ref ra, .long pz, .int kc, .ref rc, .ref rl, .ref rb, .int (nI k), .int (nI (lk_B (ut_at L p0) k))])), (q, .inl (cB, sz, .inl gq))] H := hP
                  have hD : va_D A [(mo, .inr (8, [.int th, .int fd, .ref rt, .int mn, .ref rk, .ref rv, .ref rw, .ref ro, .int md, .ref rr, .int pt, .ref ra, .long pz, .int kc, .ref rc, .ref rl, .ref rb, .int (nI k), .int (nI (lk_B (ut_at L p0) k))])), (q, .inl (cB, sz, .inl gq))] := hD
                  refine lv_aload_n hx hb d_Mo_look_237 rfl (lv_at hl 1 rfl) ?_
                  refine lv_iload hx hb d_Mo_look_238 (lv_at hl 6 rfl) ?_
                  refine va_put (D := (dC, dI)) (ci := 8) (v := .int (nI (lk_c L p0 k (k - 1)))) (ty := .int) (C := "TextForgeModel") (T := TX8) (N := 19) hx hb hg iwX8 tyX8 tyX8_ok nmX8 hown hK hP hD hS 0 rfl rfl 18 (by decide) (hg _ kw_744) (fun _ h9 => h9) rfl (by decide +kernel) rfl rfl (Nat.le_of_ble_eq_true rfl) d_Mo_look_240 (fun H locs hP hD hS => ?_)
                  have hP : va_P (dC, dI) vwCl [(mo, .inr (8, [.int th, .int fd, .ref rt, .int mn, .ref rk, .ref rv, .ref rw, .ref ro, .int md, .ref rr, .int pt, .ref ra, .long pz, .int kc, .ref rc, .ref rl, .ref rb, .int (nI k), .int (nI (lk_c L p0 k (k - 1)))])), (q, .inl (cB, sz, .inl gq))] H := hP
                  have hD : va_D A [(mo, .inr (8, [.int th, .int fd, .ref rt, .int mn, .ref rk, .ref rv, .ref rw, .ref ro, .int md, .ref rr, .int pt, .ref ra, .long pz, .int kc, .ref rc, .ref rl, .ref rb, .int (nI k), .int (nI (lk_c L p0 k (k - 1)))])), (q, .inl (cB, sz, .inl gq))] := hD
                  refine lv_iinc (v := (nI k) + 1) (lv' := [(4, .int ((nI k) + 1)), (8, .int 0), (0, .ref mo), (1, .ref q), (2, .int (nI (b0 + p0))), (3, .int (nI (L.length - p0))), (6, .int (nI (lk_c L p0 k (k - 1)))), (7, .int (by_z (lk_i L p0 k (k - 1))))]) hx hb d_Mo_look_243 hl (k := 5) rfl rfl (by decide) rfl (fun ls hl => ?_)
                  refine lv_goto (tgt := 14) hx hb d_Mo_look_246 (by decide) ?_
                  have hso := lk_so (lk_yes ⟨hk1, by omega⟩ (by omega) hb9 hlk1 hlk2 hlk3)
                  rw [show Value.int (nI k) = Value.int (nI (lk_A (ut_at L p0) (k + 1))) by rw [← hso.1], show Value.int (nI (lk_c L p0 k (k - 1))) = Value.int (nI (lk_B (ut_at L p0) (k + 1))) by rw [← hso.2]] at hP hD
                  rw [nI_1] at hl
                  exact ih_14 (k + 1) H locs ls ⟨hP.sub [0, 1] rfl, hD.sub [0, 1] (by decide) rfl, hS, lv_sub hl [2, 3, 4, 5, 0] rfl, (by omega), (by omega)⟩ (by dsimp only; omega)
                · skip
                  refine lv_goto (tgt := 243) hx hb d_Mo_look_228 (by decide) ?_
                  refine lv_iinc (v := (nI k) + 1) (lv' := [(4, .int ((nI k) + 1)), (8, .int 0), (0, .ref mo), (1, .ref q), (2, .int (nI (b0 + p0))), (3, .int (nI (L.length - p0))), (6, .int (nI (lk_c L p0 k (k - 1)))), (7, .int (by_z (lk_i L p0 k (k - 1))))]) hx hb d_Mo_look_243 hl (k := 5) rfl rfl (by decide) rfl (fun ls hl => ?_)
                  refine lv_goto (tgt := 14) hx hb d_Mo_look_246 (by decide) ?_
                  have hso := lk_no (o := (ut_at L p0)) (k := k) (fun c9 hc9 hk9 => absurd (lk_inv hc9 hk9).2.2 (by rw [by_z_f hr_67 c_225]; decide))
                  rw [hso.1, hso.2] at hP hD
                  rw [nI_1] at hl
                  exact ih_14 (k + 1) H locs ls ⟨hP.sub [0, 1] rfl, hD.sub [0, 1] (by decide) rfl, hS, lv_sub hl [2, 3, 4, 5, 0] rfl, (by omega), (by omega)⟩ (by dsimp only; omega)
          · skip
            have f_115 : (i0 + 1) < k := Nat.lt_of_not_le (fun z => c_115 (nI_le (a := k) z (by omega)))
            have hbi := hLq (p0 + (i0 + 1)) (by omega)
            refine lv_iload hx hb d_Mo_look_118 (lv_at hl 6 rfl) ?_
            refine lv_if_eq (tgt := 143) hx hb d_Mo_look_120 (by decide) (fun c_120 => ?_) (fun c_120 => ?_)
            · skip
              refine lv_iconst (v := 0) hx hb d_Mo_look_143 (by decide) ?_
              refine lv_topi (fun y_68 ey_68 => ?_)
              have ey_68 : y_68 = (by_z (lk_i L p0 k (i0 + 1)) : Int32) := ey_68.trans (show 0 = by_z (lk_i L p0 k (i0 + 1)) from (by rw [lk_i, by_z_f rfl c_120]; rfl))
              subst ey_68
              refine lv_istore (lv' := [(7, .int (by_z (lk_i L p0 k (i0 + 1)))), (0, .ref mo), (1, .ref q), (2, .int (nI (b0 + p0))), (3, .int (nI (L.length - p0))), (4, .int (nI k)), (6, .int (nI (lk_c L p0 k i0))), (8, .int (nI (i0 + 1)))]) hx hb d_Mo_look_144 hl (by decide) rfl (fun ls hl => ?_)
              refine lv_iload hx hb d_Mo_look_146 (lv_at hl 6 rfl) ?_
              refine lv_bipush (v := 6) hx hb d_Mo_look_148 (by decide) ?_
              refine lv_ishl hx hb d_Mo_look_150 ?_
              refine lv_aload_n hx hb d_Mo_look_151 rfl (lv_at hl 2 rfl) ?_
              refine lv_iload_n hx hb d_Mo_look_152 rfl (lv_at hl 3 rfl) ?_
              refine lv_iload hx hb d_Mo_look_153 (lv_at hl 7 rfl) ?_
              refine lv_iadd hx hb d_Mo_look_155 ?_
              refine lv_topi (fun y_69 ey_69 => ?_)
              have ey_69 : y_69 = (nI (b0 + (p0 + (i0 + 1))) : Int32) := ey_69.trans (show ((nI (b0 + p0)) + (nI (i0 + 1))) = nI (b0 + (p0 + (i0 + 1))) from (by rw [nI_add, Nat.add_assoc]))
              subst ey_69
              refine va_bald hx hb hK hP 1 0 rfl rfl (vp_in_nI (by omega) (by omega)) d_Mo_look_156 ?_
              refine lv_topi (fun y_70 ey_70 => ?_)
              have ey_70 : y_70 = (sb_b (L.getD (p0 + (i0 + 1)) 0) : Int32) := ey_70.trans (show (gq (nI (b0 + (p0 + (i0 + 1)))).toNatClampNeg) = sb_b (L.getD (p0 + (i0 + 1)) 0) from (by rw [nI_clamp (show b0 + (p0 + (i0 + 1)) < 2 ^ 31 by omega)]; exact hbi.2))
              subst ey_70
              refine lv_bipush (v := 63) hx hb d_Mo_look_157 (by decide) ?_
              refine lv_iand hx hb d_Mo_look_159 ?_
              refine lv_topi (fun y_71 ey_71 => ?_)
              have ey_71 : y_71 = (nI (L.getD (p0 + (i0 + 1)) 0 % 64) : Int32) := ey_71.trans (show ((sb_b (L.getD (p0 + (i0 + 1)) 0)) &&& 63) = nI (L.getD (p0 + (i0 + 1)) 0 % 64) from (sb_63 _ hbi.1))
              subst ey_71
              refine lv_ior hx hb d_Mo_look_160 ?_
              refine lv_topi (fun y_72 ey_72 => ?_)
              have ey_72 : y_72 = (nI (lk_c L p0 k (i0 + 1)) : Int32) := ey_72.trans (show (((nI (lk_c L p0 k i0)) <<< ((6 : Int32) &&& 31)) ||| (nI (L.getD (p0 + (i0 + 1)) 0 % 64))) = nI (lk_c L p0 k (i0 + 1)) from (lk_sh (lk_b2 hb9 (by omega)) (Nat.mod_lt _ (by decide))))
              subst ey_72
              refine lv_istore (lv' := [(6, .int (nI (lk_c L p0 k (i0 + 1)))), (7, .int (by_z (lk_i L p0 k (i0 + 1)))), (0, .ref mo), (1, .ref q), (2, .int (nI (b0 + p0))), (3, .int (nI (L.length - p0))), (4, .int (nI k)), (8, .int (nI (i0 + 1)))]) hx hb d_Mo_look_161 hl (by decide) rfl (fun ls hl => ?_)
              refine lv_iinc (v := (nI (i0 + 1)) + 1) (lv' := [(8, .int ((nI (i0 + 1)) + 1)), (6, .int (nI (lk_c L p0 k (i0 + 1)))), (7, .int (by_z (lk_i L p0 k (i0 + 1)))), (0, .ref mo), (1, .ref q), (2, .int (nI (b0 + p0))), (3, .int (nI (L.length - p0))), (4, .int (nI k))]) hx hb d_Mo_look_163 hl (k := 7) rfl rfl (by decide) rfl (fun ls hl => ?_)
              refine lv_goto (tgt := 111) hx hb d_Mo_look_166 (by decide) ?_
              rw [nI_1] at hl
              exact ih_111 (i0 + 1) H locs ls ⟨hP.sub [0, 1] rfl, hD.sub [0, 1] (by decide) rfl, hS, lv_sub hl [3, 4, 5, 6, 7, 1, 2, 0] rfl, f_115⟩ (by dsimp only; omega)
            · skip
              refine lv_aload_n hx hb d_Mo_look_123 rfl (lv_at hl 1 rfl) ?_
              refine lv_iload_n hx hb d_Mo_look_124 rfl (lv_at hl 2 rfl) ?_
              refine lv_iload hx hb d_Mo_look_125 (lv_at hl 7 rfl) ?_
              refine lv_iadd hx hb d_Mo_look_127 ?_
              refine lv_topi (fun y_73 ey_73 => ?_)
              have ey_73 : y_73 = (nI (b0 + (p0 + (i0 + 1))) : Int32) := ey_73.trans (show ((nI (b0 + p0)) + (nI (i0 + 1))) = nI (b0 + (p0 + (i0 + 1))) from (by rw [nI_add, Nat.add_assoc]))
              subst ey_73
              refine va_bald hx hb hK hP 1 0 rfl rfl (vp_in_nI (by omega) (by omega)) d_Mo_look_128 ?_
              refine lv_topi (fun y_74 ey_74 => ?_)
              have ey_74 : y_74 = (sb_b (L.getD (p0 + (i0 + 1)) 0) : Int32) := ey_74.trans (show (gq (nI (b0 + (p0 + (i0 + 1)))).toNatClampNeg) = sb_b (L.getD (p0 + (i0 + 1)) 0) from (by rw [nI_clamp (show b0 + (p0 + (i0 + 1)) < 2 ^ 31 by omega)]; exact hbi.2))
              subst ey_74
              refine lv_sipush (v := 192) hx hb d_Mo_look_129 (by decide) ?_
              refine lv_iand hx hb d_Mo_look_132 ?_
              refine lv_sipush (v := 128) hx hb d_Mo_look_133 (by decide) ?_
              refine lv_icmp_ne (tgt := 143) hx hb d_Mo_look_136 (by decide) (fun c_136 => ?_) (fun c_136 => ?_)
              · skip
                refine lv_iconst (v := 0) hx hb d_Mo_look_143 (by decide) ?_
                refine lv_topi (fun y_75 ey_75 => ?_)
                have ey_75 : y_75 = (by_z (lk_i L p0 k (i0 + 1)) : Int32) := ey_75.trans (show 0 = by_z (lk_i L p0 k (i0 + 1)) from (by rw [lk_i, by_z_t rfl c_120, decide_eq_false (fun z => c_136 ((sb_192 _ hbi.1).mpr z))]; rfl))
                subst ey_75
                refine lv_istore (lv' := [(7, .int (by_z (lk_i L p0 k (i0 + 1)))), (0, .ref mo), (1, .ref q), (2, .int (nI (b0 + p0))), (3, .int (nI (L.length - p0))), (4, .int (nI k)), (6, .int (nI (lk_c L p0 k i0))), (8, .int (nI (i0 + 1)))]) hx hb d_Mo_look_144 hl (by decide) rfl (fun ls hl => ?_)
                refine lv_iload hx hb d_Mo_look_146 (lv_at hl 6 rfl) ?_
                refine lv_bipush (v := 6) hx hb d_Mo_look_148 (by decide) ?_
                refine lv_ishl hx hb d_Mo_look_150 ?_
                refine lv_aload_n hx hb d_Mo_look_151 rfl (lv_at hl 2 rfl) ?_
                refine lv_iload_n hx hb d_Mo_look_152 rfl (lv_at hl 3 rfl) ?_
                refine lv_iload hx hb d_Mo_look_153 (lv_at hl 7 rfl) ?_
                refine lv_iadd hx hb d_Mo_look_155 ?_
                refine lv_topi (fun y_76 ey_76 => ?_)
                have ey_76 : y_76 = (nI (b0 + (p0 + (i0 + 1))) : Int32) := ey_76.trans (show ((nI (b0 + p0)) + (nI (i0 + 1))) = nI (b0 + (p0 + (i0 + 1))) from (by rw [nI_add, Nat.add_assoc]))
                subst ey_76
                refine va_bald hx hb hK hP 1 0 rfl rfl (vp_in_nI (by omega) (by omega)) d_Mo_look_156 ?_
                refine lv_topi (fun y_77 ey_77 => ?_)
                have ey_77 : y_77 = (sb_b (L.getD (p0 + (i0 + 1)) 0) : Int32) := ey_77.trans (show (gq (nI (b0 + (p0 + (i0 + 1)))).toNatClampNeg) = sb_b (L.getD (p0 + (i0 + 1)) 0) from (by rw [nI_clamp (show b0 + (p0 + (i0 + 1)) < 2 ^ 31 by omega)]; exact hbi.2))
                subst ey_77
                refine lv_bipush (v := 63) hx hb d_Mo_look_157 (by decide) ?_
                refine lv_iand hx hb d_Mo_look_159 ?_
                refine lv_topi (fun y_78 ey_78 => ?_)
                have ey_78 : y_78 = (nI (L.getD (p0 + (i0 + 1)) 0 % 64) : Int32) := ey_78.trans (show ((sb_b (L.getD (p0 + (i0 + 1)) 0)) &&& 63) = nI (L.getD (p0 + (i0 + 1)) 0 % 64) from (sb_63 _ hbi.1))
                subst ey_78
                refine lv_ior hx hb d_Mo_look_160 ?_
                refine lv_topi (fun y_79 ey_79 => ?_)
                have ey_79 : y_79 = (nI (lk_c L p0 k (i0 + 1)) : Int32) := ey_79.trans (show (((nI (lk_c L p0 k i0)) <<< ((6 : Int32) &&& 31)) ||| (nI (L.getD (p0 + (i0 + 1)) 0 % 64))) = nI (lk_c L p0 k (i0 + 1)) from (lk_sh (lk_b2 hb9 (by omega)) (Nat.mod_lt _ (by decide))))
                subst ey_79
                refine lv_istore (lv' := [(6, .int (nI (lk_c L p0 k (i0 + 1)))), (7, .int (by_z (lk_i L p0 k (i0 + 1)))), (0, .ref mo), (1, .ref q), (2, .int (nI (b0 + p0))), (3, .int (nI (L.length - p0))), (4, .int (nI k)), (8, .int (nI (i0 + 1)))]) hx hb d_Mo_look_161 hl (by decide) rfl (fun ls hl => ?_)
                refine lv_iinc (v := (nI (i0 + 1)) + 1) (lv' := [(8, .int ((nI (i0 + 1)) + 1)), (6, .int (nI (lk_c L p0 k (i0 + 1)))), (7, .int (by_z (lk_i L p0 k (i0 + 1)))), (0, .ref mo), (1, .ref q), (2, .int (nI (b0 + p0))), (3, .int (nI (L.length - p0))), (4, .int (nI k))]) hx hb d_Mo_look_163 hl (k := 7) rfl rfl (by decide) rfl (fun ls hl => ?_)
                refine lv_goto (tgt := 111) hx hb d_Mo_look_166 (by decide) ?_
                rw [nI_1] at hl
                exact ih_111 (i0 + 1) H locs ls ⟨hP.sub [0, 1] rfl, hD.sub [0, 1] (by decide) rfl, hS, lv_sub hl [3, 4, 5, 6, 7, 1, 2, 0] rfl, f_115⟩ (by dsimp only; omega)
              · skip
                refine lv_iconst (v := 1) hx hb d_Mo_look_139 (by decide) ?_
                refine lv_goto (tgt := 144) hx hb d_Mo_look_140 (by decide) ?_
                refine lv_topi (fun y_80 ey_80 => ?_)
                have ey_80 : y_80 = (by_z (lk_i L p0 k (i0 + 1)) : Int32) := ey_80.trans (show 1 = by_z (lk_i L p0 k (i0 + 1)) from (by rw [lk_i, by_z_t rfl c_120, decide_eq_true ((sb_192 _ hbi.1).mp c_136)]; rfl))
                subst ey_80
                refine lv_istore (lv' := [(7, .int (by_z (lk_i L p0 k (i0 + 1)))), (0, .ref mo), (1, .ref q), (2, .int (nI (b0 + p0))), (3, .int (nI (L.length - p0))), (4, .int (nI k)), (6, .int (nI (lk_c L p0 k i0))), (8, .int (nI (i0 + 1)))]) hx hb d_Mo_look_144 hl (by decide) rfl (fun ls hl => ?_)
                refine lv_iload hx hb d_Mo_look_146 (lv_at hl 6 rfl) ?_
                refine lv_bipush (v := 6) hx hb d_Mo_look_148 (by decide) ?_
                refine lv_ishl hx hb d_Mo_look_150 ?_
                refine lv_aload_n hx hb d_Mo_look_151 rfl (lv_at hl 2 rfl) ?_
                refine lv_iload_n hx hb d_Mo_look_152 rfl (lv_at hl 3 rfl) ?_
                refine lv_iload hx hb d_Mo_look_153 (lv_at hl 7 rfl) ?_
                refine lv_iadd hx hb d_Mo_look_155 ?_
                refine lv_topi (fun y_81 ey_81 => ?_)
                have ey_81 : y_81 = (nI (b0 + (p0 + (i0 + 1))) : Int32) := ey_81.trans (show ((nI (b0 + p0)) + (nI (i0 + 1))) = nI (b0 + (p0 + (i0 + 1))) from (by rw [nI_add, Nat.add_assoc]))
                subst ey_81
                refine va_bald hx hb hK hP 1 0 rfl rfl (vp_in_nI (by omega) (by omega)) d_Mo_look_156 ?_
                refine lv_topi (fun y_82 ey_82 => ?_)
                have ey_82 : y_82 = (sb_b (L.getD (p0 + (i0 + 1)) 0) : Int32) := ey_82.trans (show (gq (nI (b0 + (p0 + (i0 + 1)))).toNatClampNeg) = sb_b (L.getD (p0 + (i0 + 1)) 0) from (by rw [nI_clamp (show b0 + (p0 + (i0 + 1)) < 2 ^ 31 by omega)]; exact hbi.2))
                subst ey_82
                refine lv_bipush (v := 63) hx hb d_Mo_look_157 (by decide) ?_
                refine lv_iand hx hb d_Mo_look_159 ?_
                refine lv_topi (fun y_83 ey_83 => ?_)
                have ey_83 : y_83 = (nI (L.getD (p0 + (i0 + 1)) 0 % 64) : Int32) := ey_83.trans (show ((sb_b (L.getD (p0 + (i0 + 1)) 0)) &&& 63) = nI (L.getD (p0 + (i0 + 1)) 0 % 64) from (sb_63 _ hbi.1))
                subst ey_83
                refine lv_ior hx hb d_Mo_look_160 ?_
                refine lv_topi (fun y_84 ey_84 => ?_)
                have ey_84 : y_84 = (nI (lk_c L p0 k (i0 + 1)) : Int32) := ey_84.trans (show (((nI (lk_c L p0 k i0)) <<< ((6 : Int32) &&& 31)) ||| (nI (L.getD (p0 + (i0 + 1)) 0 % 64))) = nI (lk_c L p0 k (i0 + 1)) from (lk_sh (lk_b2 hb9 (by omega)) (Nat.mod_lt _ (by decide))))
                subst ey_84
                refine lv_istore (lv' := [(6, .int (nI (lk_c L p0 k (i0 + 1)))), (7, .int (by_z (lk_i L p0 k (i0 + 1)))), (0, .ref mo), (1, .ref q), (2, .int (nI (b0 + p0))), (3, .int (nI (L.length - p0))), (4, .int (nI k)), (8, .int (nI (i0 + 1)))]) hx hb d_Mo_look_161 hl (by decide) rfl (fun ls hl => ?_)
                refine lv_iinc (v := (nI (i0 + 1)) + 1) (lv' := [(8, .int ((nI (i0 + 1)) + 1)), (6, .int (nI (lk_c L p0 k (i0 + 1)))), (7, .int (by_z (lk_i L p0 k (i0 + 1)))), (0, .ref mo), (1, .ref q), (2, .int (nI (b0 + p0))), (3, .int (nI (L.length - p0))), (4, .int (nI k))]) hx hb d_Mo_look_163 hl (k := 7) rfl rfl (by decide) rfl (fun ls hl => ?_)
                refine lv_goto (tgt := 111) hx hb d_Mo_look_166 (by decide) ?_
                rw [nI_1] at hl
                exact ih_111 (i0 + 1) H locs ls ⟨hP.sub [0, 1] rfl, hD.sub [0, 1] (by decide) rfl, hS, lv_sub hl [3, 4, 5, 6, 7, 1, 2, 0] rfl, f_115⟩ (by dsimp only; omega)
abbrev y_Mo_quoteRow : MethodName := ⟨"TextForgeModel", "quoteRow", "([BII)V"⟩
abbrev w_Mo_quoteRow : List Cond := Cond.code y_Mo_quoteRow prog_12_method_23_code 5 none :: gw
theorem d_Mo_quoteRow_0 : decode prog_12_method_23_code 0 = .ok (.aload_n 0, 1) := by decide +kernel
theorem d_Mo_quoteRow_1 : decode prog_12_method_23_code 1 = .ok (.bipush 34, 2) := by decide +kernel
theorem d_Mo_quoteRow_3 : decode prog_12_method_23_code 3 = .ok (.invokevirtual 74, 3) := by decide +kernel
theorem d_Mo_quoteRow_6 : decode prog_12_method_23_code 6 = .ok (.iconst 0, 1) := by decide +kernel
theorem d_Mo_quoteRow_7 : decode prog_12_method_23_code 7 = .ok (.istore 4, 2) := by decide +kernel
theorem d_Mo_quoteRow_9 : decode prog_12_method_23_code 9 = .ok (.iload 4, 2) := by decide +kernel
theorem d_Mo_quoteRow_11 : decode prog_12_method_23_code 11 = .ok (.iload_n 3, 1) := by decide +kernel
theorem d_Mo_quoteRow_12 : decode prog_12_method_23_code 12 = .ok (.if_icmp .ge 77, 3) := by decide +kernel
theorem d_Mo_quoteRow_15 : decode prog_12_method_23_code 15 = .ok (.aload_n 0, 1) := by decide +kernel
theorem d_Mo_quoteRow_16 : decode prog_12_method_23_code 16 = .ok (.aload_n 1, 1) := by decide +kernel
theorem d_Mo_quoteRow_17 : decode prog_12_method_23_code 17 = .ok (.iload_n 2, 1) := by decide +kernel
theorem d_Mo_quoteRow_18 : decode prog_12_method_23_code 18 = .ok (.iload 4, 2) := by decide +kernel
theorem d_Mo_quoteRow_20 : decode prog_12_method_23_code 20 = .ok (.iadd, 1) := by decide +kernel
theorem d_Mo_quoteRow_21 : decode prog_12_method_23_code 21 = .ok (.iload_n 3, 1) := by decide +kernel
theorem d_Mo_quoteRow_22 : decode prog_12_method_23_code 22 = .ok (.iload 4, 2) := by decide +kernel
theorem d_Mo_quoteRow_24 : decode prog_12_method_23_code 24 = .ok (.isub, 1) := by decide +kernel
theorem d_Mo_quoteRow_25 : decode prog_12_method_23_code 25 = .ok (.invokevirtual 118, 3) := by decide +kernel
theorem d_Mo_quoteRow_28 : decode prog_12_method_23_code 28 = .ok (.aload_n 0, 1) := by decide +kernel
theorem d_Mo_quoteRow_29 : decode prog_12_method_23_code 29 = .ok (.getfield 107, 3) := by decide +kernel
theorem d_Mo_quoteRow_32 : decode prog_12_method_23_code 32 = .ok (.ifCond .ne 35, 3) := by decide +kernel
theorem d_Mo_quoteRow_35 : decode prog_12_method_23_code 35 = .ok (.aload_n 0, 1) := by decide +kernel
theorem d_Mo_quoteRow_36 : decode prog_12_method_23_code 36 = .ok (.bipush 92, 2) := by decide +kernel
theorem d_Mo_quoteRow_38 : decode prog_12_method_23_code 38 = .ok (.invokevirtual 74, 3) := by decide +kernel
theorem d_Mo_quoteRow_41 : decode prog_12_method_23_code 41 = .ok (.aload_n 0, 1) := by decide +kernel
theorem d_Mo_quoteRow_42 : decode prog_12_method_23_code 42 = .ok (.bipush 120, 2) := by decide +kernel
theorem d_Mo_quoteRow_44 : decode prog_12_method_23_code 44 = .ok (.invokevirtual 74, 3) := by decide +kernel
theorem d_Mo_quoteRow_47 : decode prog_12_method_23_code 47 = .ok (.aload_n 0, 1) := by decide +kernel
theorem d_Mo_quoteRow_48 : decode prog_12_method_23_code 48 = .ok (.aload_n 1, 1) := by decide +kernel
theorem d_Mo_quoteRow_49 : decode prog_12_method_23_code 49 = .ok (.iload_n 2, 1) := by decide +kernel
theorem d_Mo_quoteRow_50 : decode prog_12_method_23_code 50 = .ok (.iload 4, 2) := by decide +kernel
theorem d_Mo_quoteRow_52 : decode prog_12_method_23_code 52 = .ok (.iadd, 1) := by decide +kernel
theorem d_Mo_quoteRow_53 : decode prog_12_method_23_code 53 = .ok (.baload, 1) := by decide +kernel
theorem d_Mo_quoteRow_54 : decode prog_12_method_23_code 54 = .ok (.sipush 255, 3) := by decide +kernel
theorem d_Mo_quoteRow_57 : decode prog_12_method_23_code 57 = .ok (.iand, 1) := by decide +kernel
theorem d_Mo_quoteRow_58 : decode prog_12_method_23_code 58 = .ok (.invokevirtual 101, 3) := by decide +kernel
theorem d_Mo_quoteRow_61 : decode prog_12_method_23_code 61 = .ok (.iinc 4 1, 3) := by decide +kernel
theorem d_Mo_quoteRow_64 : decode prog_12_method_23_code 64 = .ok (.goto (-55), 3) := by decide +kernel
theorem d_Mo_quoteRow_67 : decode prog_12_method_23_code 67 = .ok (.aload_n 0, 1) := by decide +kernel
theorem d_Mo_quoteRow_68 : decode prog_12_method_23_code 68 = .ok (.aload_n 0, 1) := by decide +kernel
theorem d_Mo_quoteRow_69 : decode prog_12_method_23_code 69 = .ok (.getfield 111, 3) := by decide +kernel
theorem d_Mo_quoteRow_72 : decode prog_12_method_23_code 72 = .ok (.bipush 34, 2) := by decide +kernel
theorem d_Mo_quoteRow_74 : decode prog_12_method_23_code 74 = .ok (.invokevirtual 122, 3) := by decide +kernel
theorem d_Mo_quoteRow_77 : decode prog_12_method_23_code 77 = .ok (.iload 4, 2) := by decide +kernel
theorem d_Mo_quoteRow_79 : decode prog_12_method_23_code 79 = .ok (.aload_n 0, 1) := by decide +kernel
theorem d_Mo_quoteRow_80 : decode prog_12_method_23_code 80 = .ok (.getfield 107, 3) := by decide +kernel
theorem d_Mo_quoteRow_83 : decode prog_12_method_23_code 83 = .ok (.iadd, 1) := by decide +kernel
theorem d_Mo_quoteRow_84 : decode prog_12_method_23_code 84 = .ok (.istore 4, 2) := by decide +kernel
theorem d_Mo_quoteRow_86 : decode prog_12_method_23_code 86 = .ok (.goto (-77), 3) := by decide +kernel
theorem d_Mo_quoteRow_89 : decode prog_12_method_23_code 89 = .ok (.aload_n 0, 1) := by decide +kernel
theorem d_Mo_quoteRow_90 : decode prog_12_method_23_code 90 = .ok (.bipush 34, 2) := by decide +kernel
theorem d_Mo_quoteRow_92 : decode prog_12_method_23_code 92 = .ok (.invokevirtual 74, 3) := by decide +kernel
theorem d_Mo_quoteRow_95 : decode prog_12_method_23_code 95 = .ok (.return_, 1) := by decide +kernel
set_option maxHeartbeats 4000000 in
set_option maxRecDepth 100000 in
theorem c_Mo_quoteRow (l : Launch) (dC : Nat → ClassId) (dI : Nat → Nat → Nat) (ad : Nat → Nat) (mo rt rk rv rw ro rr ra rc rl rb : Nat) (th fd mn md pt : Int32) (pz : Int64) (kc la ca : Int32) (q sz : Nat) (cB : ClassId) (gq : Nat → Int32) (L : List Nat) (b0 : Nat) (fa : Nat → Int32) (P : List Nat) (hLq : ∀ t, t < L.length → L.getD t 0 < 256 ∧ gq (b0 + t) = sb_b (L.getD t 0)) (hqs : b0 + L.length ≤ sz) (hsz : sz ≤ 65536) (hLa : by_L P fa) (hpa : P.length + (4 * L.length + 2) ≤ 16400) : yM_v (S := (Nat → Int32) × Int32 × Int32) ad l y_Mo_quoteRow w_Mo_quoteRow { frames := 5, cells := 0, slots := 0, locals := 107 } (dC, dI) vwCl [.ref mo, .ref q, .int (nI b0), .int (nI L.length)] [(mo, .inr (8, [.int th, .int fd, .ref rt, .int mn, .ref rk, .ref rv, .ref rw, .ref ro, .int md, .ref rr, .int (nI P.length), .ref ra, .long pz, .int kc, .ref rc, .ref rl, .ref rb, .int la, .int ca])), (ra, .inl (cB, 16400, .inl fa)), (q, .inl (cB, sz, .inl gq))] [(cB, .byte)] (fun (u : (Nat → Int32) × Int32 × Int32) => match u with | (g1, la1, ca1) => by_L (P ++ qu_t L) g1) (fun u => match u with | (g1, la1, ca1) => [(mo, .inr (8, [.int th, .int fd, .ref rt, .int mn, .ref rk, .ref rv, .ref rw, .ref ro, .int md, .ref rr, .int (nI (P ++ qu_t L).length), .ref ra, .long pz, .int kc, .ref rc, .ref rl, .ref rb, .int la1, .int ca1])), (ra, .inl (cB, 16400, .inl g1)), (q, .inl (cB, sz, .inl gq))]) (fun u => match u with | (g1, la1, ca1) => [(cB, .byte)]) 0 0 := by
  refine zy_enterv (cc := prog_12_method_23_code) (nL := 5) (ret := none) (by decide) rfl (Nat.le_of_ble_eq_true rfl) ?_
  intro p e s m below meth c A ls C0 hA hS hP hK hD hl hX
  obtain ⟨hx, hb, hml, hown, hg, hr, hlocks, hin⟩ := C0
  have hown : s.vm.findClass "TextForgeModel" = some m.cls := hown
  have hP : va_P (dC, dI) vwCl [(mo, .inr (8, [.int th, .int fd, .ref rt, .int mn, .ref rk, .ref rv, .ref rw, .ref ro, .int md, .ref rr, .int (nI P.length), .ref ra, .long pz, .int kc, .ref rc, .ref rl, .ref rb, .int la, .int ca])), (ra, .inl (cB, 16400, .inl fa)), (q, .inl (cB, sz, .inl gq))] s.heap := hP
  have hK : va_K (dC, dI) vwCl [(cB, .byte)] s := hK
  have hD : va_D A [(mo, .inr (8, [.int th, .int fd, .ref rt, .int mn, .ref rk, .ref rv, .ref rw, .ref ro, .int md, .ref rr, .int (nI P.length), .ref ra, .long pz, .int kc, .ref rc, .ref rl, .ref rb, .int la, .int ca])), (ra, .inl (cB, 16400, .inl fa)), (q, .inl (cB, sz, .inl gq))] := hD
  have hl : lv_has ls 5 [(0, .ref mo), (1, .ref q), (2, .int (nI b0)), (3, .int (nI L.length))] := hl
  have hle : ∀ p1, p1 < L.length → p1 + ut_bo (ut_at L p1) ≤ L.length := fun p1 h9 => qt_le (f := fun j => sb_b (L.getD j 0)) (fun j hj => ⟨(hLq j hj).1, rfl⟩) h9
  refine lv_aload_n hx hb d_Mo_quoteRow_0 rfl (lv_at hl 0 rfl) ?_
  refine lv_bipush (v := 34) hx hb d_Mo_quoteRow_1 (by decide) ?_
  have hPc := hP.sub (ws' := [(mo, .inr (8, [.int th, .int fd, .ref rt, .int mn, .ref rk, .ref rv, .ref rw, .ref ro, .int md, .ref rr, .int (nI P.length), .ref ra, .long pz, .int kc, .ref rc, .ref rl, .ref rb, .int la, .int ca])), (ra, .inl (cB, 16400, .inl fa))]) [0, 1] rfl
  have hKc := hK.sub (tys' := [(cB, .byte)]) [0] rfl
  have hDc := hD.sub (ws' := [(mo, .inr (8, [.int th, .int fd, .ref rt, .int mn, .ref rk, .ref rv, .ref rw, .ref ro, .int md, .ref rr, .int (nI P.length), .ref ra, .long pz, .int kc, .ref rc, .ref rl, .ref rb, .int la, .int ca])), (ra, .inl (cB, 16400, .inl fa))]) [0, 1] (by decide) rfl
  have hFc := va_free (wc := [(mo, .inr (8, [.int th, .int fd, .ref rt, .int mn, .ref rk, .ref rv, .ref rw, .ref ro, .int md, .ref rr, .int (nI P.length), .ref ra, .long pz, .int kc, .ref rc, .ref rl, .ref rb, .int la, .int ca])), (ra, .inl (cB, 16400, .inl fa))]) hD hS hA [0, 1] rfl
  refine zz_callv (va_runV (As := [.int 34]) (rest := []) ⟨hx, hb, hml, hown, hg⟩ (c_Mo_put l dC dI mo rt rk rv rw ro rr ra rc rl rb th fd mn md (nI P.length) pz kc la ca cB fa P 34 hLa (by (try simp only [List.length_append, List.length_cons, List.length_nil]); omega) s.heap.size) (cwV 1 hg (gi_V kw_863 kw_865 sw_16 kw_9 kw_866) rfl rfl rfl (by decide +kernel) ⟨Nat.le_of_ble_eq_true rfl, Nat.le_of_ble_eq_true rfl⟩) (zz_preV hPc hKc hDc _ (q0 := 0) (ci := 8) rfl rfl) rfl rfl hl.1 rfl (lv_room (Nat.le_of_ble_eq_true rfl)) d_Mo_quoteRow_3 ⟨Nat.le_of_ble_eq_true rfl, Nat.le_of_ble_eq_true rfl⟩) hS hFc (fun u H1 k9 p9 d9 => va_join (wr := [(q, .inl (cB, sz, .inl gq))]) hP hD [0, 1] [2] rfl rfl (by decide) (by decide) k9 hFc p9 d9) (fun u H locs hw hP hD hK1 hS => ?_)
  obtain ⟨u_1, rfl⟩ : ∃ z, z = u := ⟨_, rfl⟩
  try dsimp only at hw
  have hP : va_P (dC, dI) vwCl [(q, .inl (cB, sz, .inl gq)), (mo, .inr (8, [.int th, .int fd, .ref rt, .int mn, .ref rk, .ref rv, .ref rw, .ref ro, .int md, .ref rr, .int (nI (P ++ [by_b 34]).length), .ref ra, .long pz, .int kc, .ref rc, .ref rl, .ref rb, .int la, .int ca])), (ra, .inl (cB, 16400, .inl u_1))] H := hP
  have hD : va_D A [(q, .inl (cB, sz, .inl gq)), (mo, .inr (8, [.int th, .int fd, .ref rt, .int mn, .ref rk, .ref rv, .ref rw, .ref ro, .int md, .ref rr, .int (nI (P ++ [by_b 34]).length), .ref ra, .long pz, .int kc, .ref rc, .ref rl, .ref rb, .int la, .int ca])), (ra, .inl (cB, 16400, .inl u_1))] := hD
  have hL_3 := hw
  refine lv_iconst (v := 0) hx hb d_Mo_quoteRow_6 (by decide) ?_
  refine lv_istore (lv' := [(4, .int 0), (0, .ref mo), (1, .ref q), (2, .int (nI b0)), (3, .int (nI L.length))]) hx hb d_Mo_quoteRow_7 hl (by decide) rfl (fun ls hl => ?_)
  refine zz_loop (fun (x : Nat × List Nat × (Nat → Int32) × Int32 × Int32) H locs ls => match x with | (p1, E, g, la2, ca2) => va_P (dC, dI) vwCl [(mo, .inr (8, [.int th, .int fd, .ref rt, .int mn, .ref rk, .ref rv, .ref rw, .ref ro, .int md, .ref rr, .int (nI (P ++ (34 :: E)).length), .ref ra, .long pz, .int kc, .ref rc, .ref rl, .ref rb, .int la2, .int ca2])), (ra, .inl (cB, 16400, .inl g)), (q, .inl (cB, sz, .inl gq))] H ∧ va_D A [(mo, .inr (8, [.int th, .int fd, .ref rt, .int mn, .ref rk, .ref rv, .ref rw, .ref ro, .int md, .ref rr, .int (nI (P ++ (34 :: E)).length), .ref ra, .long pz, .int kc, .ref rc, .ref rl, .ref rb, .int la2, .int ca2])), (ra, .inl (cB, 16400, .inl g)), (q, .inl (cB, sz, .inl gq))] ∧ va_S A s.heap H locs ∧ lv_has ls 5 [(0, .ref mo), (1, .ref q), (2, .int (nI b0)), (3, .int (nI L.length)), (4, .int (nI p1))] ∧ by_L (P ++ (34 :: E)) g ∧ qt_I L E p1 ∧ p1 ≤ L.length ∧ E.length ≤ 4 * p1) (fun x => match x with | (p1, E, g, la2, ca2) => L.length - p1) ?_ (0, [], u_1, la, ca) ⟨hP.sub [1, 2, 0] rfl, hD.sub [1, 2, 0] (by decide) rfl, hS, lv_sub hl [1, 2, 3, 4, 0] rfl, hL_3, (qt_I0 _), (Nat.zero_le _), (Nat.zero_le _)⟩
  intro x H locs ls hI ih_9
  obtain ⟨p1, E, g, la2, ca2⟩ := x
  try dsimp only at hI
  obtain ⟨hP, hD, hS, hl, hLE, hE, hp1, hEl⟩ := hI
  refine lv_iload hx hb d_Mo_quoteRow_9 (lv_at hl 4 rfl) ?_
  refine lv_iload_n hx hb d_Mo_quoteRow_11 rfl (lv_at hl 3 rfl) ?_
  refine lv_icmp_ge (tgt := 89) hx hb d_Mo_quoteRow_12 (by decide) (fun c_12 => ?_) (fun c_12 => ?_)
  · skip
    have f_12 : L.length ≤ p1 := Nat.le_of_not_lt (fun z => nI_ge (b := L.length) z (by omega) c_12)
    have ep : p1 = L.length := by omega
    refine lv_aload_n hx hb d_Mo_quoteRow_89 rfl (lv_at hl 0 rfl) ?_
    refine lv_bipush (v := 34) hx hb d_Mo_quoteRow_90 (by decide) ?_
    have hPc := hP.sub (ws' := [(mo, .inr (8, [.int th, .int fd, .ref rt, .int mn, .ref rk, .ref rv, .ref rw, .ref ro, .int md, .ref rr, .int (nI (P ++ (34 :: E)).length), .ref ra, .long pz, .int kc, .ref rc, .ref rl, .ref rb, .int la2, .int ca2])), (ra, .inl (cB, 16400, .inl g))]) [0, 1] rfl
    have hKc := hK.sub (tys' := [(cB, .byte)]) [0] rfl
    have hDc := hD.sub (ws' := [(mo, .inr (8, [.int th, .int fd, .ref rt, .int mn, .ref rk, .ref rv, .ref rw, .ref ro, .int md, .ref rr, .int (nI (P ++ (34 :: E)).length), .ref ra, .long pz, .int kc, .ref rc, .ref rl, .ref rb, .int la2, .int ca2])), (ra, .inl (cB, 16400, .inl g))]) [0, 1] (by decide) rfl
    have hFc := va_free (wc := [(mo, .inr (8, [.int th, .int fd, .ref rt, .int mn, .ref rk, .ref rv, .ref rw, .ref ro, .int md, .ref rr, .int (nI (P ++ (34 :: E)).length), .ref ra, .long pz, .int kc, .ref rc, .ref rl, .ref rb, .int la2, .int ca2])), (ra, .inl (cB, 16400, .inl g))]) hD hS hA [0, 1] rfl
    refine zz_callv (va_runV (As := [.int 34]) (rest := []) ⟨hx, hb, hml, hown, hg⟩ (c_Mo_put l dC dI mo rt rk rv rw ro rr ra rc rl rb th fd mn md (nI (P ++ (34 :: E)).length) pz kc la2 ca2 cB g (P ++ (34 :: E)) 34 hLE (by (try simp only [List.length_append, List.length_cons, List.length_nil]); omega) H.size) (cwV 1 hg (gi_V kw_863 kw_865 sw_16 kw_9 kw_866) rfl rfl rfl (by decide +kernel) ⟨Nat.le_of_ble_eq_true rfl, Nat.le_of_ble_eq_true rfl⟩) (zz_preV hPc hKc hDc _ (q0 := 0) (ci := 8) rfl rfl) rfl rfl hl.1 rfl (lv_room (Nat.le_of_ble_eq_true rfl)) d_Mo_quoteRow_92 ⟨Nat.le_of_ble_eq_true rfl, Nat.le_of_ble_eq_true rfl⟩) hS hFc (fun u H1 k9 p9 d9 => va_join (wr := [(q, .inl (cB, sz, .inl gq))]) hP hD [0, 1] [2] rfl rfl (by decide) (by decide) k9 hFc p9 d9) (fun u H locs hw hP hD hK1 hS => ?_)
    obtain ⟨u_4, rfl⟩ : ∃ z, z = u := ⟨_, rfl⟩
    try dsimp only at hw
    have hP : va_P (dC, dI) vwCl [(q, .inl (cB, sz, .inl gq)), (mo, .inr (8, [.int th, .int fd, .ref rt, .int mn, .ref rk, .ref rv, .ref rw, .ref ro, .int md, .ref rr, .int (nI ((P ++ (34 :: E)) ++ [by_b 34]).length), .ref ra, .long pz, .int kc, .ref rc, .ref rl, .ref rb, .int la2, .int ca2])), (ra, .inl (cB, 16400, .inl u_4))] H := hP
    have hD : va_D A [(q, .inl (cB, sz, .inl gq)), (mo, .inr (8, [.int th, .int fd, .ref rt, .int mn, .ref rk, .ref rv, .ref rw, .ref ro, .int md, .ref rr, .int (nI ((P ++ (34 :: E)) ++ [by_b 34]).length), .ref ra, .long pz, .int kc, .ref rc, .ref rl, .ref rb, .int la2, .int ca2])), (ra, .inl (cB, 16400, .inl u_4))] := hD
    have hL_6 := hw
    have hP9 := hP.sub (ws' := [(mo, .inr (8, [.int th, .int fd, .ref rt, .int mn, .ref rk, .ref rv, .ref rw, .ref ro, .int md, .ref rr, .int (nI ((P ++ (34 :: E)) ++ [by_b 34]).length), .ref ra, .long pz, .int kc, .ref rc, .ref rl, .ref rb, .int la2, .int ca2])), (ra, .inl (cB, 16400, .inl u_4)), (q, .inl (cB, sz, .inl gq))]) [1, 2, 0] rfl
    have hD9 := hD.sub (ws' := [(mo, .inr (8, [.int th, .int fd, .ref rt, .int mn, .ref rk, .ref rv, .ref rw, .ref ro, .int md, .ref rr, .int (nI ((P ++ (34 :: E)) ++ [by_b 34]).length), .ref ra, .long pz, .int kc, .ref rc, .ref rl, .ref rb, .int la2, .int ca2])), (ra, .inl (cB, 16400, .inl u_4)), (q, .inl (cB, sz, .inl gq))]) [1, 2, 0] (by decide) rfl
    have hK9 := hK.sub (tys' := [(cB, .byte)]) [0] rfl
    rw [show ((P ++ (34 :: E)) ++ [by_b 34]) = (P ++ qu_t L) from (qr_e hE ep)] at hP9 hD9
    exact zz_vret hx hb hr hlocks d_Mo_quoteRow_95 hS (by first | exact Nat.le_refl _ | decide | omega | (dsimp only; omega)) (by first | exact Nat.le_refl _ | decide | omega | (dsimp only; omega)) (u_4, la2, ca2) (by rw [show ((P ++ (34 :: E)) ++ [by_b 34]) = (P ++ qu_t L) from (qr_e hE ep)] at hL_6; exact hL_6) hP9 hK9 hD9
  · skip
    have f_12 : p1 < L.length := Nat.lt_of_not_le (fun z => c_12 (nI_le (a := L.length) z (by omega)))
    have hpl : p1 < L.length := f_12
    refine lv_aload_n hx hb d_Mo_quoteRow_15 rfl (lv_at hl 0 rfl) ?_
    refine lv_aload_n hx hb d_Mo_quoteRow_16 rfl (lv_at hl 1 rfl) ?_
    refine lv_iload_n hx hb d_Mo_quoteRow_17 rfl (lv_at hl 2 rfl) ?_
    refine lv_iload hx hb d_Mo_quoteRow_18 (lv_at hl 4 rfl) ?_
    refine lv_iadd hx hb d_Mo_quoteRow_20 ?_
    refine lv_topi (fun y_7 ey_7 => ?_)
    have ey_7 : y_7 = (nI (b0 + p1) : Int32) := ey_7.trans (show ((nI b0) + (nI p1)) = nI (b0 + p1) from (nI_add _ _))
    subst ey_7
    refine lv_iload_n hx hb d_Mo_quoteRow_21 rfl (lv_at hl 3 rfl) ?_
    refine lv_iload hx hb d_Mo_quoteRow_22 (lv_at hl 4 rfl) ?_
    refine lv_isub hx hb d_Mo_quoteRow_24 ?_
    refine lv_topi (fun y_8 ey_8 => ?_)
    have ey_8 : y_8 = (nI (L.length - p1) : Int32) := ey_8.trans (show ((nI L.length) - (nI p1)) = nI (L.length - p1) from (pk_sub hp1))
    subst ey_8
    have hPc := hP.sub (ws' := [(mo, .inr (8, [.int th, .int fd, .ref rt, .int mn, .ref rk, .ref rv, .ref rw, .ref ro, .int md, .ref rr, .int (nI (P ++ (34 :: E)).length), .ref ra, .long pz, .int kc, .ref rc, .ref rl, .ref rb, .int la2, .int ca2])), (q, .inl (cB, sz, .inl gq))]) [0, 2] rfl
    have hKc := hK.sub (tys' := [(cB, .byte)]) [0] rfl
    have hDc := hD.sub (ws' := [(mo, .inr (8, [.int th, .int fd, .ref rt, .int mn, .ref rk, .ref rv, .ref rw, .ref ro, .int md, .ref rr, .int (nI (P ++ (34 :: E)).length), .ref ra, .long pz, .int kc, .ref rc, .ref rl, .ref rb, .int la2, .int ca2])), (q, .inl (cB, sz, .inl gq))]) [0, 2] (by decide) rfl
    have hFc := va_free (wc := [(mo, .inr (8, [.int th, .int fd, .ref rt, .int mn, .ref rk, .ref rv, .ref rw, .ref ro, .int md, .ref rr, .int (nI (P ++ (34 :: E)).length), .ref ra, .long pz, .int kc, .ref rc, .ref rl, .ref rb, .int la2, .int ca2])), (q, .inl (cB, sz, .inl gq))]) hD hS hA [0, 2] rfl
    refine zz_callv (va_runV (As := [.ref q, .int (nI (b0 + p1)), .int (nI (L.length - p1))]) (rest := []) ⟨hx, hb, hml, hown, hg⟩ (c_Mo_look l dC dI mo rt rk rv rw ro rr ra rc rl rb th fd mn md (nI (P ++ (34 :: E)).length) pz kc la2 ca2 q sz cB gq L b0 p1 hLq hqs hsz hpl H.size) (cwV 3 hg (gi_V kw_829 kw_831 sw_12 kw_9 kw_832) rfl rfl rfl (by decide +kernel) ⟨Nat.le_of_ble_eq_true rfl, Nat.le_of_ble_eq_true rfl⟩) (zz_preV hPc hKc hDc _ (q0 := 0) (ci := 8) rfl rfl) rfl rfl hl.1 rfl (lv_room (Nat.le_of_ble_eq_true rfl)) d_Mo_quoteRow_25 ⟨Nat.le_of_ble_eq_true rfl, Nat.le_of_ble_eq_true rfl⟩) hS hFc (fun u H1 k9 p9 d9 => va_join (wr := [(ra, .inl (cB, 16400, .inl g))]) hP hD [0, 2] [1] rfl rfl (by decide) (by decide) k9 hFc p9 d9) (fun u H locs hw hP hD hK1 hS => ?_)
    obtain ⟨u_9, rfl⟩ : ∃ z, z = u := ⟨_, rfl⟩
    try dsimp only at hw
    have hP : va_P (dC, dI) vwCl [(ra, .inl (cB, 16400, .inl g)), (mo, .inr (8, [.int th, .int fd, .ref rt, .int mn, .ref rk, .ref rv, .ref rw, .ref ro, .int md, .ref rr, .int (nI (P ++ (34 :: E)).length), .ref ra, .long pz, .int kc, .ref rc, .ref rl, .ref rb, .int (nI (lk_n (ut_at L p1))), .int (nI (cd_v (ut_at L p1)))])), (q, .inl (cB, sz, .inl gq))] H := hP
    have hD : va_D A [(ra, .inl (cB, 16400, .inl g)), (mo, .inr (8, [.int th, .int fd, .ref rt, .int mn, .ref rk, .ref rv, .ref rw, .ref ro, .int md, .ref rr, .int (nI (P ++ (34 :: E)).length), .ref ra, .long pz, .int kc, .ref rc, .ref rl, .ref rb, .int (nI (lk_n (ut_at L p1))), .int (nI (cd_v (ut_at L p1)))])), (q, .inl (cB, sz, .inl gq))] := hD
    refine lv_aload_n hx hb d_Mo_quoteRow_28 rfl (lv_at hl 0 rfl) ?_
    refine va_get (D := (dC, dI)) (ci := 8) (v := .int (nI (lk_n (ut_at L p1)))) (C := "TextForgeModel") (T := TX8) (N := 19) hx hb hg iwX8 hown hK hP 1 rfl rfl 17 (by decide) (hg _ kw_743) (fun _ h9 => h9) rfl d_Mo_quoteRow_29 ?_
    refine lv_if_ne (tgt := 67) hx hb d_Mo_quoteRow_32 (by decide) (fun c_32 => ?_) (fun c_32 => ?_)
    · skip
      have f_32 : lk_n (ut_at L p1) ≠ 0 := nI_ne (b := 0) c_32
      refine lv_aload_n hx hb d_Mo_quoteRow_67 rfl (lv_at hl 0 rfl) ?_
      refine lv_aload_n hx hb d_Mo_quoteRow_68 rfl (lv_at hl 0 rfl) ?_
      refine va_get (D := (dC, dI)) (ci := 8) (v := .int (nI (cd_v (ut_at L p1)))) (C := "TextForgeModel") (T := TX8) (N := 19) hx hb hg iwX8 hown hK hP 1 rfl rfl 18 (by decide) (hg _ kw_744) (fun _ h9 => h9) rfl d_Mo_quoteRow_69 ?_
      refine lv_bipush (v := 34) hx hb d_Mo_quoteRow_72 (by decide) ?_
      have hPc := hP.sub (ws' := [(mo, .inr (8, [.int th, .int fd, .ref rt, .int mn, .ref rk, .ref rv, .ref rw, .ref ro, .int md, .ref rr, .int (nI (P ++ (34 :: E)).length), .ref ra, .long pz, .int kc, .ref rc, .ref rl, .ref rb, .int (nI (lk_n (ut_at L p1))), .int (nI (cd_v (ut_at L p1)))])), (ra, .inl (cB, 16400, .inl g))]) [1, 0] rfl
      have hKc := hK.sub (tys' := [(cB, .byte)]) [0] rfl
      have hDc := hD.sub (ws' := [(mo, .inr (8, [.int th, .int fd, .ref rt, .int mn, .ref rk, .ref rv, .ref rw, .ref ro, .int md, .ref rr, .int (nI (P ++ (34 :: E)).length), .ref ra, .long pz, .int kc, .ref rc, .ref rl, .ref rb, .int (nI (lk_n (ut_at L p1))), .int (nI (cd_v (ut_at L p1)))])), (ra, .inl (cB, 16400, .inl g))]) [1, 0] (by decide) rfl
      have hFc := va_free (wc := [(mo, .inr (8, [.int th, .int fd, .ref rt, .int mn, .ref rk, .ref rv, .ref rw, .ref ro, .int md, .ref rr, .int (nI (P ++ (34 :: E)).length), .ref ra, .long pz, .int kc, .ref rc, .ref rl, .ref rb, .int (nI (lk_n (ut_at L p1))), .int (nI (cd_v (ut_at L p1)))])), (ra, .inl (cB, 16400, .inl g))]) hD hS hA [1, 0] rfl
      refine zz_callv (va_runV (As := [.int (nI (cd_v (ut_at L p1))), .int 34]) (rest := []) ⟨hx, hb, hml, hown, hg⟩ (c_Mo_quoted l dC dI ad mo rt rk rv rw ro rr ra rc rl rb th fd mn md (nI (P ++ (34 :: E)).length) pz kc (nI (lk_n (ut_at L p1))) (nI (cd_v (ut_at L p1))) cB g (P ++ (34 :: E)) (cd_v (ut_at L p1)) 34 hLE (by (try simp only [List.length_append, List.length_cons, List.length_nil]); omega) (qr_c f_32).2 (by decide) H.size) (cwV 2 hg (gi_V kw_894 kw_896 sw_22 kw_9 kw_897) rfl rfl rfl (by decide +kernel) ⟨Nat.le_of_ble_eq_true rfl, Nat.le_of_ble_eq_true rfl⟩) (zy_preV hX hS hFc hPc hKc hDc _ (q0 := 0) (ci := 8) rfl rfl) rfl rfl hl.1 rfl (lv_room (Nat.le_of_ble_eq_true rfl)) d_Mo_quoteRow_74 ⟨Nat.le_of_ble_eq_true rfl, Nat.le_of_ble_eq_true rfl⟩) hS hFc (fun u H1 k9 p9 d9 => va_join (wr := [(q, .inl (cB, sz, .inl gq))]) hP hD [1, 0] [2] rfl rfl (by decide) (by decide) k9 hFc p9 d9) (fun u H locs hw hP hD hK1 hS => ?_)
      obtain ⟨u_11, rfl⟩ : ∃ z, z = u := ⟨_, rfl⟩
      try dsimp only at hw
      have hP : va_P (dC, dI) vwCl [(q, .inl (cB, sz, .inl gq)), (mo, .inr (8, [.int th, .int fd, .ref rt, .int mn, .ref rk, .ref rv, .ref rw, .ref ro, .int md, .ref rr, .int (nI ((P ++ (34 :: E)) ++ (mq 34 (cd_v (ut_at L p1)))).length), .ref ra, .long pz, .int kc, .ref rc, .ref rl, .ref rb, .int (nI (lk_n (ut_at L p1))), .int (nI (cd_v (ut_at L p1)))])), (ra, .inl (cB, 16400, .inl u_11))] H := hP
      have hD : va_D A [(q, .inl (cB, sz, .inl gq)), (mo, .inr (8, [.int th, .int fd, .ref rt, .int mn, .ref rk, .ref rv, .ref rw, .ref ro, .int md, .ref rr, .int (nI ((P ++ (34 :: E)) ++ (mq 34 (cd_v (ut_at L p1)))).length), .ref ra, .long pz, .int kc, .ref rc, .ref rl, .ref rb, .int (nI (lk_n (ut_at L p1))), .int (nI (cd_v (ut_at L p1)))])), (ra, .inl (cB, 16400, .inl u_11))] := hD
      have hL_13 := hw
      refine lv_iload hx hb d_Mo_quoteRow_77 (lv_at hl 4 rfl) ?_
      refine lv_aload_n hx hb d_Mo_quoteRow_79 rfl (lv_at hl 0 rfl) ?_
      refine va_get (D := (dC, dI)) (ci := 8) (v := .int (nI (lk_n (ut_at L p1)))) (C := "TextForgeModel") (T := TX8) (N := 19) hx hb hg iwX8 hown hK hP 1 rfl rfl 17 (by decide) (hg _ kw_743) (fun _ h9 => h9) rfl d_Mo_quoteRow_80 ?_
      refine lv_iadd hx hb d_Mo_quoteRow_83 ?_
      refine lv_istore (lv' := [(4, .int ((nI p1) + (nI (lk_n (ut_at L p1))))), (0, .ref mo), (1, .ref q), (2, .int (nI b0)), (3, .int (nI L.length))]) hx hb d_Mo_quoteRow_84 hl (by decide) rfl (fun ls hl => ?_)
      refine lv_goto (tgt := 9) hx hb d_Mo_quoteRow_86 (by decide) ?_
      rw [qr_1 (qr_c f_32).1.symm] at hP hD hL_13
      rw [nI_add, qr_bo.2 f_32] at hl
      exact ih_9 (p1 + ut_bo (ut_at L p1), (E ++ qu_p L p1), u_11, nI (lk_n (ut_at L p1)), nI (cd_v (ut_at L p1))) H locs ls ⟨hP.sub [1, 2, 0] rfl, hD.sub [1, 2, 0] (by decide) rfl, hS, lv_sub hl [1, 2, 3, 4, 0] rfl, hL_13, (qt_E hE hpl), (hle p1 hpl), (by have := qr_l hpl (hLq p1 hpl).1; have := qt_pos (ut_at L p1); rw [List.length_append]; omega)⟩ (by dsimp only; have := qt_pos (ut_at L p1); omega)
    · skip
      have f_32 : ut_at L p1 = none := qr_bo.1 (nI_e1 (b := 0) c_32 (by have := lk_n4 (ut_at L p1); omega) (by decide))
      refine lv_aload_n hx hb d_Mo_quoteRow_35 rfl (lv_at hl 0 rfl) ?_
      refine lv_bipush (v := 92) hx hb d_Mo_quoteRow_36 (by decide) ?_
      have hPc := hP.sub (ws' := [(mo, .inr (8, [.int th, .int fd, .ref rt, .int mn, .ref rk, .ref rv, .ref rw, .ref ro, .int md, .ref rr, .int (nI (P ++ (34 :: E)).length), .ref ra, .long pz, .int kc, .ref rc, .ref rl, .ref rb, .int (nI (lk_n (ut_at L p1))), .int (nI (cd_v (ut_at L p1)))])), (ra, .inl (cB, 16400, .inl g))]) [1, 0] rfl
      have hKc := hK.sub (tys' := [(cB, .byte)]) [0] rfl
      have hDc := hD.sub (ws' := [(mo, .inr (8, [.int th, .int fd, .ref rt, .int mn, .ref rk, .ref rv, .ref rw, .ref ro, .int md, .ref rr, .int (nI (P ++ (34 :: E)).length), .ref ra, .long pz, .int kc, .ref rc, .ref rl, .ref rb, .int (nI (lk_n (ut_at L p1))), .int (nI (cd_v (ut_at L p1)))])), (ra, .inl (cB, 16400, .inl g))]) [1, 0] (by decide) rfl
      have hFc := va_free (wc := [(mo, .inr (8, [.int th, .int fd, .ref rt, .int mn, .ref rk, .ref rv, .ref rw, .ref ro, .int md, .ref rr, .int (nI (P ++ (34 :: E)).length), .ref ra, .long pz, .int kc, .ref rc, .ref rl, .ref rb, .int (nI (lk_n (ut_at L p1))), .int (nI (cd_v (ut_at L p1)))])), (ra, .inl (cB, 16400, .inl g))]) hD hS hA [1, 0] rfl
      refine zz_callv (va_runV (As := [.int 92]) (rest := []) ⟨hx, hb, hml, hown, hg⟩ (c_Mo_put l dC dI mo rt rk rv rw ro rr ra rc rl rb th fd mn md (nI (P ++ (34 :: E)).length) pz kc (nI (lk_n (ut_at L p1))) (nI (cd_v (ut_at L p1))) cB g (P ++ (34 :: E)) 92 hLE (by (try simp only [List.length_append, List.length_cons, List.length_nil]); omega) H.size) (cwV 1 hg (gi_V kw_863 kw_865 sw_16 kw_9 kw_866) rfl rfl rfl (by decide +kernel) ⟨Nat.le_of_ble_eq_true rfl, Nat.le_of_ble_eq_true rfl⟩) (zz_preV hPc hKc hDc _ (q0 := 0) (ci := 8) rfl rfl) rfl rfl hl.1 rfl (lv_room (Nat.le_of_ble_eq_true rfl)) d_Mo_quoteRow_38 ⟨Nat.le_of_ble_eq_true rfl, Nat.le_of_ble_eq_true rfl⟩) hS hFc (fun u H1 k9 p9 d9 => va_join (wr := [(q, .inl (cB, sz, .inl gq))]) hP hD [1, 0] [2] rfl rfl (by decide) (by decide) k9 hFc p9 d9) (fun u H locs hw hP hD hK1 hS => ?_)
      obtain ⟨u_14, rfl⟩ : ∃ z, z = u := ⟨_, rfl⟩
      try dsimp only at hw
      have hP : va_P (dC, dI) vwCl [(q, .inl (cB, sz, .inl gq)), (mo, .inr (8, [.int th, .int fd, .ref rt, .int mn, .ref rk, .ref rv, .ref rw, .ref ro, .int md, .ref rr, .int (nI ((P ++ (34 :: E)) ++ [by_b 92]).length), .ref ra, .long pz, .int kc, .ref rc, .ref rl, .ref rb, .int (nI (lk_n (ut_at L p1))), .int (nI (cd_v (ut_at L p1)))])), (ra, .inl (cB, 16400, .inl u_14))] H := hP
      have hD : va_D A [(q, .inl (cB, sz, .inl gq)), (mo, .inr (8, [.int th, .int fd, .ref rt, .int mn, .ref rk, .ref rv, .ref rw, .ref ro, .int md, .ref rr, .int (nI ((P ++ (34 :: E)) ++ [by_b 92]).length), .ref ra, .long pz, .int kc, .ref rc, .ref rl, .ref rb, .int (nI (lk_n (ut_at L p1))), .int (nI (cd_v (ut_at L p1)))])), (ra, .inl (cB, 16400, .inl u_14))] := hD
      have hL_16 := hw
      refine lv_aload_n hx hb d_Mo_quoteRow_41 rfl (lv_at hl 0 rfl) ?_
      refine lv_bipush (v := 120) hx hb d_Mo_quoteRow_42 (by decide) ?_
      have hPc := hP.sub (ws' := [(mo, .inr (8, [.int th, .int fd, .ref rt, .int mn, .ref rk, .ref rv, .ref rw, .ref ro, .int md, .ref rr, .int (nI ((P ++ (34 :: E)) ++ [by_b 92]).length), .ref ra, .long pz, .int kc, .ref rc, .ref rl, .ref rb, .int (nI (lk_n (ut_at L p1))), .int (nI (cd_v (ut_at L p1)))])), (ra, .inl (cB, 16400, .inl u_14))]) [1, 2] rfl
      have hKc := hK.sub (tys' := [(cB, .byte)]) [0] rfl
      have hDc := hD.sub (ws' := [(mo, .inr (8, [.int th, .int fd, .ref rt, .int mn, .ref rk, .ref rv, .ref rw, .ref ro, .int md, .ref rr, .int (nI ((P ++ (34 :: E)) ++ [by_b 92]).length), .ref ra, .long pz, .int kc, .ref rc, .ref rl, .ref rb, .int (nI (lk_n (ut_at L p1))), .int (nI (cd_v (ut_at L p1)))])), (ra, .inl (cB, 16400, .inl u_14))]) [1, 2] (by decide) rfl
      have hFc := va_free (wc := [(mo, .inr (8, [.int th, .int fd, .ref rt, .int mn, .ref rk, .ref rv, .ref rw, .ref ro, .int md, .ref rr, .int (nI ((P ++ (34 :: E)) ++ [by_b 92]).length), .ref ra, .long pz, .int kc, .ref rc, .ref rl, .ref rb, .int (nI (lk_n (ut_at L p1))), .int (nI (cd_v (ut_at L p1)))])), (ra, .inl (cB, 16400, .inl u_14))]) hD hS hA [1, 2] rfl
      refine zz_callv (va_runV (As := [.int 120]) (rest := []) ⟨hx, hb, hml, hown, hg⟩ (c_Mo_put l dC dI mo rt rk rv rw ro rr ra rc rl rb th fd mn md (nI ((P ++ (34 :: E)) ++ [by_b 92]).length) pz kc (nI (lk_n (ut_at L p1))) (nI (cd_v (ut_at L p1))) cB u_14 ((P ++ (34 :: E)) ++ [by_b 92]) 120 hL_16 (by (try simp only [List.length_append, List.length_cons, List.length_nil]); omega) H.size) (cwV 1 hg (gi_V kw_863 kw_865 sw_16 kw_9 kw_866) rfl rfl rfl (by decide +kernel) ⟨Nat.le_of_ble_eq_true rfl, Nat.le_of_ble_eq_true rfl⟩) (zz_preV hPc hKc hDc _ (q0 := 0) (ci := 8) rfl rfl) rfl rfl hl.1 rfl (lv_room (Nat.le_of_ble_eq_true rfl)) d_Mo_quoteRow_44 ⟨Nat.le_of_ble_eq_true rfl, Nat.le_of_ble_eq_true rfl⟩) hS hFc (fun u H1 k9 p9 d9 => va_join (wr := [(q, .inl (cB, sz, .inl gq))]) hP hD [1, 2] [0] rfl rfl (by decide) (by decide) k9 hFc p9 d9) (fun u H locs hw hP hD hK1 hS => ?_)
      obtain ⟨u_17, rfl⟩ : ∃ z, z = u := ⟨_, rfl⟩
      try dsimp only at hw
      have hP : va_P (dC, dI) vwCl [(q, .inl (cB, sz, .inl gq)), (mo, .inr (8, [.int th, .int fd, .ref rt, .int mn, .ref rk, .ref rv, .ref rw, .ref ro, .int md, .ref rr, .int (nI (((P ++ (34 :: E)) ++ [by_b 92]) ++ [by_b 120]).length), .ref ra, .long pz, .int kc, .ref rc, .ref rl, .ref rb, .int (nI (lk_n (ut_at L p1))), .int (nI (cd_v (ut_at L p1)))])), (ra, .inl (cB, 16400, .inl u_17))] H := hP
      have hD : va_D A [(q, .inl (cB, sz, .inl gq)), (mo, .inr (8, [.int th, .int fd, .ref rt, .int mn, .ref rk, .ref rv, .ref rw, .ref ro, .int md, .ref rr, .int (nI (((P ++ (34 :: E)) ++ [by_b 92]) ++ [by_b 120]).length), .ref ra, .long pz, .int kc, .ref rc, .ref rl, .ref rb, .int (nI (lk_n (ut_at L p1))), .int (nI (cd_v (ut_at L p1)))])), (ra, .inl (cB, 16400, .inl u_17))] := hD
      have hL_19 := hw
      refine lv_aload_n hx hb d_Mo_quoteRow_47 rfl (lv_at hl 0 rfl) ?_
      refine lv_aload_n hx hb d_Mo_quoteRow_48 rfl (lv_at hl 1 rfl) ?_
      refine lv_iload_n hx hb d_Mo_quoteRow_49 rfl (lv_at hl 2 rfl) ?_
      refine lv_iload hx hb d_Mo_quoteRow_50 (lv_at hl 4 rfl) ?_
      refine lv_iadd hx hb d_Mo_quoteRow_52 ?_
      refine lv_topi (fun y_20 ey_20 => ?_)
      have ey_20 : y_20 = (nI (b0 + p1) : Int32) := ey_20.trans (show ((nI b0) + (nI p1)) = nI (b0 + p1) from (nI_add _ _))
      subst ey_20
      refine va_bald hx hb hK hP 0 0 rfl rfl (vp_in_nI (by omega) (by omega)) d_Mo_quoteRow_53 ?_
      refine lv_topi (fun y_21 ey_21 => ?_)
      have ey_21 : y_21 = (sb_b (L.getD p1 0) : Int32) := ey_21.trans (show (gq (nI (b0 + p1)).toNatClampNeg) = sb_b (L.getD p1 0) from (by rw [nI_clamp (show b0 + p1 < 2 ^ 31 by omega)]; exact (hLq p1 hpl).2))
      subst ey_21
      refine lv_sipush (v := 255) hx hb d_Mo_quoteRow_54 (by decide) ?_
      refine lv_iand hx hb d_Mo_quoteRow_57 ?_
      refine lv_topi (fun y_22 ey_22 => ?_)
      have ey_22 : y_22 = (nI (L.getD p1 0) : Int32) := ey_22.trans (show ((sb_b (L.getD p1 0)) &&& 255) = nI (L.getD p1 0) from (sb_255 _ (hLq p1 hpl).1))
      subst ey_22
      have hPc := hP.sub (ws' := [(mo, .inr (8, [.int th, .int fd, .ref rt, .int mn, .ref rk, .ref rv, .ref rw, .ref ro, .int md, .ref rr, .int (nI (((P ++ (34 :: E)) ++ [by_b 92]) ++ [by_b 120]).length), .ref ra, .long pz, .int kc, .ref rc, .ref rl, .ref rb, .int (nI (lk_n (ut_at L p1))), .int (nI (cd_v (ut_at L p1)))])), (ra, .inl (cB, 16400, .inl u_17))]) [1, 2] rfl
      have hKc := hK.sub (tys' := [(cB, .byte)]) [0] rfl
      have hDc := hD.sub (ws' := [(mo, .inr (8, [.int th, .int fd, .ref rt, .int mn, .ref rk, .ref rv, .ref rw, .ref ro, .int md, .ref rr, .int (nI (((P ++ (34 :: E)) ++ [by_b 92]) ++ [by_b 120]).length), .ref ra, .long pz, .int kc, .ref rc, .ref rl, .ref rb, .int (nI (lk_n (ut_at L p1))), .int (nI (cd_v (ut_at L p1)))])), (ra, .inl (cB, 16400, .inl u_17))]) [1, 2] (by decide) rfl
      have hFc := va_free (wc := [(mo, .inr (8, [.int th, .int fd, .ref rt, .int mn, .ref rk, .ref rv, .ref rw, .ref ro, .int md, .ref rr, .int (nI (((P ++ (34 :: E)) ++ [by_b 92]) ++ [by_b 120]).length), .ref ra, .long pz, .int kc, .ref rc, .ref rl, .ref rb, .int (nI (lk_n (ut_at L p1))), .int (nI (cd_v (ut_at L p1)))])), (ra, .inl (cB, 16400, .inl u_17))]) hD hS hA [1, 2] rfl
      refine zz_callv (va_runV (As := [.int (nI (L.getD p1 0))]) (rest := []) ⟨hx, hb, hml, hown, hg⟩ (c_Mo_hex l dC dI mo rt rk rv rw ro rr ra rc rl rb th fd mn md (nI (((P ++ (34 :: E)) ++ [by_b 92]) ++ [by_b 120]).length) pz kc (nI (lk_n (ut_at L p1))) (nI (cd_v (ut_at L p1))) cB u_17 (((P ++ (34 :: E)) ++ [by_b 92]) ++ [by_b 120]) (L.getD p1 0) hL_19 (by (try simp only [List.length_append, List.length_cons, List.length_nil]); omega) (hLq p1 hpl).1 H.size) (cwV 1 hg (gi_V kw_886 kw_888 sw_20 kw_9 kw_889) rfl rfl rfl (by decide +kernel) ⟨Nat.le_of_ble_eq_true rfl, Nat.le_of_ble_eq_true rfl⟩) (zz_preV hPc hKc hDc _ (q0 := 0) (ci := 8) rfl rfl) rfl rfl hl.1 rfl (lv_room (Nat.le_of_ble_eq_true rfl)) d_Mo_quoteRow_58 ⟨Nat.le_of_ble_eq_true rfl, Nat.le_of_ble_eq_true rfl⟩) hS hFc (fun u H1 k9 p9 d9 => va_join (wr := [(q, .inl (cB, sz, .inl gq))]) hP hD [1, 2] [0] rfl rfl (by decide) (by decide) k9 hFc p9 d9) (fun u H locs hw hP hD hK1 hS => ?_)
      obtain ⟨u_23, rfl⟩ : ∃ z, z = u := ⟨_, rfl⟩
      try dsimp only at hw
      have hP : va_P (dC, dI) vwCl [(q, .inl (cB, sz, .inl gq)), (mo, .inr (8, [.int th, .int fd, .ref rt, .int mn, .ref rk, .ref rv, .ref rw, .ref ro, .int md, .ref rr, .int (nI ((((P ++ (34 :: E)) ++ [by_b 92]) ++ [by_b 120]) ++ [nu_d 97 ((L.getD p1 0) / 16), nu_d 97 ((L.getD p1 0) % 16)]).length), .ref ra, .long pz, .int kc, .ref rc, .ref rl, .ref rb, .int (nI (lk_n (ut_at L p1))), .int (nI (cd_v (ut_at L p1)))])), (ra, .inl (cB, 16400, .inl u_23))] H := hP
      have hD : va_D A [(q, .inl (cB, sz, .inl gq)), (mo, .inr (8, [.int th, .int fd, .ref rt, .int mn, .ref rk, .ref rv, .ref rw, .ref ro, .int md, .ref rr, .int (nI ((((P ++ (34 :: E)) ++ [by_b 92]) ++ [by_b 120]) ++ [nu_d 97 ((L.getD p1 0) / 16), nu_d 97 ((L.getD p1 0) % 16)]).length), .ref ra, .long pz, .int kc, .ref rc, .ref rl, .ref rb, .int (nI (lk_n (ut_at L p1))), .int (nI (cd_v (ut_at L p1)))])), (ra, .inl (cB, 16400, .inl u_23))] := hD
      have hL_25 := hw
      refine lv_iinc (v := (nI p1) + 1) (lv' := [(4, .int ((nI p1) + 1)), (0, .ref mo), (1, .ref q), (2, .int (nI b0)), (3, .int (nI L.length))]) hx hb d_Mo_quoteRow_61 hl (k := 4) rfl rfl (by decide) rfl (fun ls hl => ?_)
      refine lv_goto (tgt := 9) hx hb d_Mo_quoteRow_64 (by decide) ?_
      rw [qr_1n (qr_n hpl (hLq p1 hpl).1 f_32)] at hP hD hL_25
      rw [show nI p1 + 1 = nI (p1 + ut_bo (ut_at L p1)) by rw [f_32]; exact nI_1 p1] at hl
      exact ih_9 (p1 + ut_bo (ut_at L p1), (E ++ qu_p L p1), u_23, nI (lk_n (ut_at L p1)), nI (cd_v (ut_at L p1))) H locs ls ⟨hP.sub [1, 2, 0] rfl, hD.sub [1, 2, 0] (by decide) rfl, hS, lv_sub hl [1, 2, 3, 4, 0] rfl, hL_25, (qt_E hE hpl), (hle p1 hpl), (by have := qr_l hpl (hLq p1 hpl).1; have := qt_pos (ut_at L p1); rw [List.length_append]; omega)⟩ (by dsimp only; have := qt_pos (ut_at L p1); omega)
abbrev y_Mo_giveParts : MethodName := ⟨"TextForgeModel", "giveParts", "()V"⟩
abbrev w_Mo_giveParts : List Cond := Cond.code y_Mo_giveParts prog_12_method_36_code 2 none :: gw
theorem d_Mo_giveParts_0 : decode prog_12_method_36_code 0 = .ok (.iconst 0, 1) := by decide +kernel
theorem d_Mo_giveParts_1 : decode prog_12_method_36_code 1 = .ok (.istore_n 1, 1) := by decide +kernel
theorem d_Mo_giveParts_2 : decode prog_12_method_36_code 2 = .ok (.iload_n 1, 1) := by decide +kernel
theorem d_Mo_giveParts_3 : decode prog_12_method_36_code 3 = .ok (.aload_n 0, 1) := by decide +kernel
theorem d_Mo_giveParts_4 : decode prog_12_method_36_code 4 = .ok (.getfield 61, 3) := by decide +kernel
theorem d_Mo_giveParts_7 : decode prog_12_method_36_code 7 = .ok (.if_icmp .ge 19, 3) := by decide +kernel
theorem d_Mo_giveParts_10 : decode prog_12_method_36_code 10 = .ok (.aload_n 0, 1) := by decide +kernel
theorem d_Mo_giveParts_11 : decode prog_12_method_36_code 11 = .ok (.aload_n 0, 1) := by decide +kernel
theorem d_Mo_giveParts_12 : decode prog_12_method_36_code 12 = .ok (.getfield 31, 3) := by decide +kernel
theorem d_Mo_giveParts_15 : decode prog_12_method_36_code 15 = .ok (.iload_n 1, 1) := by decide +kernel
theorem d_Mo_giveParts_16 : decode prog_12_method_36_code 16 = .ok (.baload, 1) := by decide +kernel
theorem d_Mo_giveParts_17 : decode prog_12_method_36_code 17 = .ok (.invokevirtual 188, 3) := by decide +kernel
theorem d_Mo_giveParts_20 : decode prog_12_method_36_code 20 = .ok (.iinc 1 1, 3) := by decide +kernel
theorem d_Mo_giveParts_23 : decode prog_12_method_36_code 23 = .ok (.goto (-21), 3) := by decide +kernel
theorem d_Mo_giveParts_26 : decode prog_12_method_36_code 26 = .ok (.return_, 1) := by decide +kernel
set_option maxHeartbeats 4000000 in
set_option maxRecDepth 100000 in
theorem c_Mo_giveParts (l : Launch) (dC : Nat → ClassId) (dI : Nat → Nat → Nat) (mo rt rk rv rw ro rr ra rc rl rb : Nat) (th fd mn md pt : Int32) (pz : Int64) (kc la ca : Int32) (cB : ClassId) (fa : Nat → Int32) (P : List Nat) (fr : Nat → Int32) (M : List Nat) (hLa : by_L P fa) (hpa : P.length ≤ 16400) (hLr : by_L M fr) (hcr : M.length ≤ 4096) : zM_v (S := Nat → Int32) l y_Mo_giveParts w_Mo_giveParts { frames := 1, cells := 0, slots := 0, locals := 21 } (dC, dI) vwCl [.ref mo] [(mo, .inr (8, [.int th, .int fd, .ref rt, .int mn, .ref rk, .ref rv, .ref rw, .ref ro, .int (nI M.length), .ref rr, .int (nI P.length), .ref ra, .long pz, .int kc, .ref rc, .ref rl, .ref rb, .int la, .int ca])), (ra, .inl (cB, 16400, .inl fa)), (rr, .inl (cB, 4096, .inl fr))] [(cB, .byte)] (fun (u : Nat → Int32) => by_L (by_ap 4096 M P) u) (fun u => [(mo, .inr (8, [.int th, .int fd, .ref rt, .int mn, .ref rk, .ref rv, .ref rw, .ref ro, .int (nI (by_ap 4096 M P).length), .ref rr, .int (nI P.length), .ref ra, .long pz, .int kc, .ref rc, .ref rl, .ref rb, .int la, .int ca])), (ra, .inl (cB, 16400, .inl fa)), (rr, .inl (cB, 4096, .inl u))]) (fun u => [(cB, .byte)]) 0 0 := by
  refine zz_enterv (cc := prog_12_method_36_code) (nL := 2) (ret := none) (by decide) rfl (Nat.le_of_ble_eq_true rfl) ?_
  intro p e s m below meth c A ls C0 hA hS hP hK hD hl
  obtain ⟨hx, hb, hml, hown, hg, hr, hlocks, hin⟩ := C0
  have hown : s.vm.findClass "TextForgeModel" = some m.cls := hown
  have hP : va_P (dC, dI) vwCl [(mo, .inr (8, [.int th, .int fd, .ref rt, .int mn, .ref rk, .ref rv, .ref rw, .ref ro, .int (nI M.length), .ref rr, .int (nI P.length), .ref ra, .long pz, .int kc, .ref rc, .ref rl, .ref rb, .int la, .int ca])), (ra, .inl (cB, 16400, .inl fa)), (rr, .inl (cB, 4096, .inl fr))] s.heap := hP
  have hK : va_K (dC, dI) vwCl [(cB, .byte)] s := hK
  have hD : va_D A [(mo, .inr (8, [.int th, .int fd, .ref rt, .int mn, .ref rk, .ref rv, .ref rw, .ref ro, .int (nI M.length), .ref rr, .int (nI P.length), .ref ra, .long pz, .int kc, .ref rc, .ref rl, .ref rb, .int la, .int ca])), (ra, .inl (cB, 16400, .inl fa)), (rr, .inl (cB, 4096, .inl fr))] := hD
  have hl : lv_has ls 2 [(0, .ref mo)] := hl
  refine lv_iconst (v := 0) hx hb d_Mo_giveParts_0 (by decide) ?_
  refine lv_istore_n (lv' := [(1, .int 0), (0, .ref mo)]) hx hb d_Mo_giveParts_1 rfl hl (by decide) rfl (fun ls hl => ?_)
  rw [show nI M.length = nI (by_ap 4096 M (P.take 0)).length by rw [← gp_0 hcr]] at hP hD
  refine zz_loop (fun (x : Nat × (Nat → Int32)) H locs ls => match x with | (i, g) => va_P (dC, dI) vwCl [(mo, .inr (8, [.int th, .int fd, .ref rt, .int mn, .ref rk, .ref rv, .ref rw, .ref ro, .int (nI (by_ap 4096 M (P.take i)).length), .ref rr, .int (nI P.length), .ref ra, .long pz, .int kc, .ref rc, .ref rl, .ref rb, .int la, .int ca])), (ra, .inl (cB, 16400, .inl fa)), (rr, .inl (cB, 4096, .inl g))] H ∧ va_D A [(mo, .inr (8, [.int th, .int fd, .ref rt, .int mn, .ref rk, .ref rv, .ref rw, .ref ro, .int (nI (by_ap 4096 M (P.take i)).length), .ref rr, .int (nI P.length), .ref ra, .long pz, .int kc, .ref rc, .ref rl, .ref rb, .int la, .int ca])), (ra, .inl (cB, 16400, .inl fa)), (rr, .inl (cB, 4096, .inl g))] ∧ va_S A s.heap H locs ∧ lv_has ls 2 [(0, .ref mo), (1, .int (nI i))] ∧ by_L (by_ap 4096 M (P.take i)) g ∧ i ≤ P.length) (fun x => match x with | (i, g) => P.length - i) ?_ (0, fr) ⟨hP.sub [0, 1, 2] rfl, hD.sub [0, 1, 2] (by decide) rfl, hS, lv_sub hl [1, 0] rfl, (by rw [← gp_0 hcr]; exact hLr), (Nat.zero_le _)⟩
  intro x H locs ls hI ih_2
  obtain ⟨i, g⟩ := x
  try dsimp only at hI
  obtain ⟨hP, hD, hS, hl, hRi, hil⟩ := hI
  refine lv_iload_n hx hb d_Mo_giveParts_2 rfl (lv_at hl 1 rfl) ?_
  refine lv_aload_n hx hb d_Mo_giveParts_3 rfl (lv_at hl 0 rfl) ?_
  refine va_get (D := (dC, dI)) (ci := 8) (v := .int (nI P.length)) (C := "TextForgeModel") (T := TX8) (N := 19) hx hb hg iwX8 hown hK hP 0 rfl rfl 10 (by decide) (hg _ kw_736) (fun _ h9 => h9) rfl d_Mo_giveParts_4 ?_
  refine lv_icmp_ge (tgt := 26) hx hb d_Mo_giveParts_7 (by decide) (fun c_7 => ?_) (fun c_7 => ?_)
  · skip
    have f_7 : P.length ≤ i := Nat.le_of_not_lt (fun z => nI_ge (b := P.length) z (by omega) c_7)
    have hP9 := hP.sub (ws' := [(mo, .inr (8, [.int th, .int fd, .ref rt, .int mn, .ref rk, .ref rv, .ref rw, .ref ro, .int (nI (by_ap 4096 M (P.take i)).length), .ref rr, .int (nI P.length), .ref ra, .long pz, .int kc, .ref rc, .ref rl, .ref rb, .int la, .int ca])), (ra, .inl (cB, 16400, .inl fa)), (rr, .inl (cB, 4096, .inl g))]) [0, 1, 2] rfl
    have hD9 := hD.sub (ws' := [(mo, .inr (8, [.int th, .int fd, .ref rt, .int mn, .ref rk, .ref rv, .ref rw, .ref ro, .int (nI (by_ap 4096 M (P.take i)).length), .ref rr, .int (nI P.length), .ref ra, .long pz, .int kc, .ref rc, .ref rl, .ref rb, .int la, .int ca])), (ra, .inl (cB, 16400, .inl fa)), (rr, .inl (cB, 4096, .inl g))]) [0, 1, 2] (by decide) rfl
    have hK9 := hK.sub (tys' := [(cB, .byte)]) [0] rfl
    rw [gp_e (show i = P.length by omega)] at hP9 hD9
    exact zz_vret hx hb hr hlocks d_Mo_giveParts_26 hS (by first | exact Nat.le_refl _ | decide | omega | (dsimp only; omega)) (by first | exact Nat.le_refl _ | decide | omega | (dsimp only; omega)) g (by rw [← gp_e (show i = P.length by omega)]; exact hRi) hP9 hK9 hD9
  · skip
    have f_7 : i < P.length := Nat.lt_of_not_le (fun z => c_7 (nI_le (a := P.length) z (by omega)))
    refine lv_aload_n hx hb d_Mo_giveParts_10 rfl (lv_at hl 0 rfl) ?_
    refine lv_aload_n hx hb d_Mo_giveParts_11 rfl (lv_at hl 0 rfl) ?_
    refine va_get (D := (dC, dI)) (ci := 8) (v := .ref ra) (C := "TextForgeModel") (T := TX8) (N := 19) hx hb hg iwX8 hown hK hP 0 rfl rfl 11 (by decide) (hg _ kw_737) (fun _ h9 => h9) rfl d_Mo_giveParts_12 ?_
    refine lv_iload_n hx hb d_Mo_giveParts_15 rfl (lv_at hl 1 rfl) ?_
    refine va_bald hx hb hK hP 1 0 rfl rfl (vp_in_nI (by omega) (by decide)) d_Mo_giveParts_16 ?_
    refine lv_topi (fun y_1 ey_1 => ?_)
    have ey_1 : y_1 = (sb_b (P.getD i 0) : Int32) := ey_1.trans (show (fa (nI i).toNatClampNeg) = sb_b (P.getD i 0) from (by rw [nI_clamp (show i < 2 ^ 31 by omega)]; exact (hLa i f_7).2))
    subst ey_1
    have hPc := hP.sub (ws' := [(mo, .inr (8, [.int th, .int fd, .ref rt, .int mn, .ref rk, .ref rv, .ref rw, .ref ro, .int (nI (by_ap 4096 M (P.take i)).length), .ref rr, .int (nI P.length), .ref ra, .long pz, .int kc, .ref rc, .ref rl, .ref rb, .int la, .int ca])), (rr, .inl (cB, 4096, .inl g))]) [0, 2] rfl
    have hKc := hK.sub (tys' := [(cB, .byte)]) [0] rfl
    have hDc := hD.sub (ws' := [(mo, .inr (8, [.int th, .int fd, .ref rt, .int mn, .ref rk, .ref rv, .ref rw, .ref ro, .int (nI (by_ap 4096 M (P.take i)).length), .ref rr, .int (nI P.length), .ref ra, .long pz, .int kc, .ref rc, .ref rl, .ref rb, .int la, .int ca])), (rr, .inl (cB, 4096, .inl g))]) [0, 2] (by decide) rfl
    have hFc := va_free (wc := [(mo, .inr (8, [.int th, .int fd, .ref rt, .int mn, .ref rk, .ref rv, .ref rw, .ref ro, .int (nI (by_ap 4096 M (P.take i)).length), .ref rr, .int (nI P.length), .ref ra, .long pz, .int kc, .ref rc, .ref rl, .ref rb, .int la, .int ca])), (rr, .inl (cB, 4096, .inl g))]) hD hS hA [0, 2] rfl
    refine zz_callv (va_runV (As := [.int (sb_b (P.getD i 0))]) (rest := []) ⟨hx, hb, hml, hown, hg⟩ (c_Mo_give l dC dI mo rt rk rv rw ro rr ra rc rl rb th fd mn (nI (by_ap 4096 M (P.take i)).length) (nI P.length) pz kc la ca cB g (by_ap 4096 M (P.take i)) (sb_b (P.getD i 0)) hRi (by_ap_len _ _ _) H.size) (cwV 1 hg (gi_V kw_848 kw_850 sw_13 kw_9 kw_851) rfl rfl rfl (by decide +kernel) ⟨Nat.le_of_ble_eq_true rfl, Nat.le_of_ble_eq_true rfl⟩) (zz_preV hPc hKc hDc _ (q0 := 0) (ci := 8) rfl rfl) rfl rfl hl.1 rfl (lv_room (Nat.le_of_ble_eq_true rfl)) d_Mo_giveParts_17 ⟨Nat.le_of_ble_eq_true rfl, Nat.le_of_ble_eq_true rfl⟩) hS hFc (fun u H1 k9 p9 d9 => va_join (wr := [(ra, .inl (cB, 16400, .inl fa))]) hP hD [0, 2] [1] rfl rfl (by decide) (by decide) k9 hFc p9 d9) (fun u H locs hw hP hD hK1 hS => ?_)
    obtain ⟨u_2, rfl⟩ : ∃ z, z = u := ⟨_, rfl⟩
    try dsimp only at hw
    have hP : va_P (dC, dI) vwCl [(ra, .inl (cB, 16400, .inl fa)), (mo, .inr (8, [.int th, .int fd, .ref rt, .int mn, .ref rk, .ref rv, .ref rw, .ref ro, .int (nI (by_ap 4096 (by_ap 4096 M (P.take i)) [by_b (sb_b (P.getD i 0))]).length), .ref rr, .int (nI P.length), .ref ra, .long pz, .int kc, .ref rc, .ref rl, .ref rb, .int la, .int ca])), (rr, .inl (cB, 4096, .inl u_2))] H := hP
    have hD : va_D A [(ra, .inl (cB, 16400, .inl fa)), (mo, .inr (8, [.int th, .int fd, .ref rt, .int mn, .ref rk, .ref rv, .ref rw, .ref ro, .int (nI (by_ap 4096 (by_ap 4096 M (P.take i)) [by_b (sb_b (P.getD i 0))]).length), .ref rr, .int (nI P.length), .ref ra, .long pz, .int kc, .ref rc, .ref rl, .ref rb, .int la, .int ca])), (rr, .inl (cB, 4096, .inl u_2))] := hD
    have hR_4 := hw
    refine lv_iinc (v := (nI i) + 1) (lv' := [(1, .int ((nI i) + 1)), (0, .ref mo)]) hx hb d_Mo_giveParts_20 hl (k := 1) rfl rfl (by decide) rfl (fun ls hl => ?_)
    refine lv_goto (tgt := 2) hx hb d_Mo_giveParts_23 (by decide) ?_
    rw [gp_s f_7 (hLa i f_7).1] at hP hD hR_4
    rw [nI_1] at hl
    exact ih_2 (i + 1, u_2) H locs ls ⟨hP.sub [1, 0, 2] rfl, hD.sub [1, 0, 2] (by decide) rfl, hS, lv_sub hl [1, 0] rfl, hR_4, f_7⟩ (by dsimp only; omega)
abbrev y_Mo_encode : MethodName := ⟨"TextForgeModel", "encode", "(I)I"⟩
abbrev w_Mo_encode : List Cond := Cond.code y_Mo_encode prog_12_method_39_code 2 (some .int) :: gw
theorem d_Mo_encode_0 : decode prog_12_method_39_code 0 = .ok (.aload_n 0, 1) := by decide +kernel
theorem d_Mo_encode_1 : decode prog_12_method_39_code 1 = .ok (.iconst 0, 1) := by decide +kernel
theorem d_Mo_encode_2 : decode prog_12_method_39_code 2 = .ok (.putfield 43, 3) := by decide +kernel
theorem d_Mo_encode_5 : decode prog_12_method_39_code 5 = .ok (.aload_n 0, 1) := by decide +kernel
theorem d_Mo_encode_6 : decode prog_12_method_39_code 6 = .ok (.iconst 0, 1) := by decide +kernel
theorem d_Mo_encode_7 : decode prog_12_method_39_code 7 = .ok (.putfield 78, 3) := by decide +kernel
theorem d_Mo_encode_10 : decode prog_12_method_39_code 10 = .ok (.aload_n 0, 1) := by decide +kernel
theorem d_Mo_encode_11 : decode prog_12_method_39_code 11 = .ok (.iconst 0, 1) := by decide +kernel
theorem d_Mo_encode_12 : decode prog_12_method_39_code 12 = .ok (.putfield 61, 3) := by decide +kernel
theorem d_Mo_encode_15 : decode prog_12_method_39_code 15 = .ok (.aload_n 0, 1) := by decide +kernel
theorem d_Mo_encode_16 : decode prog_12_method_39_code 16 = .ok (.iload_n 1, 1) := by decide +kernel
theorem d_Mo_encode_17 : decode prog_12_method_39_code 17 = .ok (.i2l, 1) := by decide +kernel
theorem d_Mo_encode_18 : decode prog_12_method_39_code 18 = .ok (.invokestatic 114, 3) := by decide +kernel
theorem d_Mo_encode_21 : decode prog_12_method_39_code 21 = .ok (.ifCond .eq 7, 3) := by decide +kernel
theorem d_Mo_encode_24 : decode prog_12_method_39_code 24 = .ok (.iload_n 1, 1) := by decide +kernel
theorem d_Mo_encode_25 : decode prog_12_method_39_code 25 = .ok (.goto 5, 3) := by decide +kernel
theorem d_Mo_encode_28 : decode prog_12_method_39_code 28 = .ok (.ldc 110, 2) := by decide +kernel
theorem d_Mo_encode_30 : decode prog_12_method_39_code 30 = .ok (.invokevirtual 104, 3) := by decide +kernel
theorem d_Mo_encode_33 : decode prog_12_method_39_code 33 = .ok (.aload_n 0, 1) := by decide +kernel
theorem d_Mo_encode_34 : decode prog_12_method_39_code 34 = .ok (.invokevirtual 199, 3) := by decide +kernel
theorem d_Mo_encode_37 : decode prog_12_method_39_code 37 = .ok (.aload_n 0, 1) := by decide +kernel
theorem d_Mo_encode_38 : decode prog_12_method_39_code 38 = .ok (.getfield 78, 3) := by decide +kernel
theorem d_Mo_encode_41 : decode prog_12_method_39_code 41 = .ok (.ireturn, 1) := by decide +kernel
set_option maxHeartbeats 4000000 in
set_option maxRecDepth 100000 in
theorem c_Mo_encode (l : Launch) (dC : Nat → ClassId) (dI : Nat → Nat → Nat) (mo rt rk rv rw ro rr ra rc rl rb : Nat) (th fd mn md pt : Int32) (pz : Int64) (kc la ca : Int32) (cB : ClassId) (fa fr : Nat → Int32) (v : Int32)  : zM_i (S := (Nat → Int32) × (Nat → Int32)) l y_Mo_encode w_Mo_encode { frames := 2, cells := 0, slots := 0, locals := 42 } (dC, dI) vwCl [.ref mo, .int v] [(mo, .inr (8, [.int th, .int fd, .ref rt, .int mn, .ref rk, .ref rv, .ref rw, .ref ro, .int md, .ref rr, .int pt, .ref ra, .long pz, .int kc, .ref rc, .ref rl, .ref rb, .int la, .int ca])), (ra, .inl (cB, 16400, .inl fa)), (rr, .inl (cB, 4096, .inl fr))] [(cB, .byte)] (fun (r : Int32) (u : (Nat → Int32) × (Nat → Int32)) => match u with | (g1, g2) => r = nI (List.take 4096 (ut_8 (ut_cn v.toInt))).length ∧ by_L (List.take 4096 (ut_8 (ut_cn v.toInt))) g2) (fun u => match u with | (g1, g2) => [(mo, .inr (8, [.int 0, .int fd, .ref rt, .int mn, .ref rk, .ref rv, .ref rw, .ref ro, .int (nI (List.take 4096 (ut_8 (ut_cn v.toInt))).length), .ref rr, .int (nI ([] ++ (ut_8 (ut_cn v.toInt))).length), .ref ra, .long pz, .int kc, .ref rc, .ref rl, .ref rb, .int la, .int ca])), (ra, .inl (cB, 16400, .inl g1)), (rr, .inl (cB, 4096, .inl g2))]) (fun u => match u with | (g1, g2) => [(cB, .byte)]) 0 0 := by
  refine zz_enteri (cc := prog_12_method_39_code) (nL := 2) (ret := (some .int)) (by decide) rfl (Nat.le_of_ble_eq_true rfl) ?_
  intro p e s m below meth c A ls C0 hA hS hP hK hD hl
  obtain ⟨hx, hb, hml, hown, hg, hr, hlocks, hin⟩ := C0
  have hown : s.vm.findClass "TextForgeModel" = some m.cls := hown
  have hP : va_P (dC, dI) vwCl [(mo, .inr (8, [.int th, .int fd, .ref rt, .int mn, .ref rk, .ref rv, .ref rw, .ref ro, .int md, .ref rr, .int pt, .ref ra, .long pz, .int kc, .ref rc, .ref rl, .ref rb, .int la, .int ca])), (ra, .inl (cB, 16400, .inl fa)), (rr, .inl (cB, 4096, .inl fr))] s.heap := hP
  have hK : va_K (dC, dI) vwCl [(cB, .byte)] s := hK
  have hD : va_D A [(mo, .inr (8, [.int th, .int fd, .ref rt, .int mn, .ref rk, .ref rv, .ref rw, .ref ro, .int md, .ref rr, .int pt, .ref ra, .long pz, .int kc, .ref rc, .ref rl, .ref rb, .int la, .int ca])), (ra, .inl (cB, 16400, .inl fa)), (rr, .inl (cB, 4096, .inl fr))] := hD
  have hl : lv_has ls 2 [(0, .ref mo), (1, .int v)] := hl
  refine lv_aload_n hx hb d_Mo_encode_0 rfl (lv_at hl 0 rfl) ?_
  refine lv_iconst (v := 0) hx hb d_Mo_encode_1 (by decide) ?_
  refine va_put (D := (dC, dI)) (ci := 8) (v := .int 0) (ty := .int) (C := "TextForgeModel") (T := TX8) (N := 19) hx hb hg iwX8 tyX8 tyX8_ok nmX8 hown hK hP hD hS 0 rfl rfl 0 (by decide) (hg _ kw_726) (fun _ h9 => h9) rfl (by decide +kernel) rfl rfl (Nat.le_of_ble_eq_true rfl) d_Mo_encode_2 (fun H locs hP hD hS => ?_)
  have hP : va_P (dC, dI) vwCl [(mo, .inr (8, [.int 0, .int fd, .ref rt, .int mn, .ref rk, .ref rv, .ref rw, .ref ro, .int md, .ref rr, .int pt, .ref ra, .long pz, .int kc, .ref rc, .ref rl, .ref rb, .int la, .int ca])), (ra, .inl (cB, 16400, .inl fa)), (rr, .inl (cB, 4096, .inl fr))] H := hP
  have hD : va_D A [(mo, .inr (8, [.int 0, .int fd, .ref rt, .int mn, .ref rk, .ref rv, .ref rw, .ref ro, .int md, .ref rr, .int pt, .ref ra, .long pz, .int kc, .ref rc, .ref rl, .ref rb, .int la, .int ca])), (ra, .inl (cB, 16400, .inl fa)), (rr, .inl (cB, 4096, .inl fr))] := hD
  refine lv_aload_n hx hb d_Mo_encode_5 rfl (lv_at hl 0 rfl) ?_
  refine lv_iconst (v := 0) hx hb d_Mo_encode_6 (by decide) ?_
  refine va_put (D := (dC, dI)) (ci := 8) (v := .int 0) (ty := .int) (C := "TextForgeModel") (T := TX8) (N := 19) hx hb hg iwX8 tyX8 tyX8_ok nmX8 hown hK hP hD hS 0 rfl rfl 8 (by decide) (hg _ kw_734) (fun _ h9 => h9) rfl (by decide +kernel) rfl rfl (Nat.le_of_ble_eq_true rfl) d_Mo_encode_7 (fun H locs hP hD hS => ?_)
  have hP : va_P (dC, dI) vwCl [(mo, .inr (8, [.int 0, .int fd, .ref rt, .int mn, .ref rk, .ref rv, .ref rw, .ref ro, .int 0, .ref rr, .int pt, .ref ra, .long pz, .int kc, .ref rc, .ref rl, .ref rb, .int la, .int ca])), (ra, .inl (cB, 16400, .inl fa)), (rr, .inl (cB, 4096, .inl fr))] H := hP
  have hD : va_D A [(mo, .inr (8, [.int 0, .int fd, .ref rt, .int mn, .ref rk, .ref rv, .ref rw, .ref ro, .int 0, .ref rr, .int pt, .ref ra, .long pz, .int kc, .ref rc, .ref rl, .ref rb, .int la, .int ca])), (ra, .inl (cB, 16400, .inl fa)), (rr, .inl (cB, 4096, .inl fr))] := hD
  refine lv_aload_n hx hb d_Mo_encode_10 rfl (lv_at hl 0 rfl) ?_
  refine lv_iconst (v := 0) hx hb d_Mo_encode_11 (by decide) ?_
  refine va_put (D := (dC, dI)) (ci := 8) (v := .int 0) (ty := .int) (C := "TextForgeModel") (T := TX8) (N := 19) hx hb hg iwX8 tyX8 tyX8_ok nmX8 hown hK hP hD hS 0 rfl rfl 10 (by decide) (hg _ kw_736) (fun _ h9 => h9) rfl (by decide +kernel) rfl rfl (Nat.le_of_ble_eq_true rfl) d_Mo_encode_12 (fun H locs hP hD hS => ?_)
  have hP : va_P (dC, dI) vwCl [(mo, .inr (8, [.int 0, .int fd, .ref rt, .int mn, .ref rk, .ref rv, .ref rw, .ref ro, .int 0, .ref rr, .int 0, .ref ra, .long pz, .int kc, .ref rc, .ref rl, .ref rb, .int la, .int ca])), (ra, .inl (cB, 16400, .inl fa)), (rr, .inl (cB, 4096, .inl fr))] H := hP
  have hD : va_D A [(mo, .inr (8, [.int 0, .int fd, .ref rt, .int mn, .ref rk, .ref rv, .ref rw, .ref ro, .int 0, .ref rr, .int 0, .ref ra, .long pz, .int kc, .ref rc, .ref rl, .ref rb, .int la, .int ca])), (ra, .inl (cB, 16400, .inl fa)), (rr, .inl (cB, 4096, .inl fr))] := hD
  have hP : va_P (dC, dI) vwCl [(mo, .inr (8, [.int 0, .int fd, .ref rt, .int mn, .ref rk, .ref rv, .ref rw, .ref ro, .int (nI ([] : List Nat).length), .ref rr, .int (nI ([] : List Nat).length), .ref ra, .long pz, .int kc, .ref rc, .ref rl, .ref rb, .int la, .int ca])), (ra, .inl (cB, 16400, .inl fa)), (rr, .inl (cB, 4096, .inl fr))] H := hP
  have hD : va_D A [(mo, .inr (8, [.int 0, .int fd, .ref rt, .int mn, .ref rk, .ref rv, .ref rw, .ref ro, .int (nI ([] : List Nat).length), .ref rr, .int (nI ([] : List Nat).length), .ref ra, .long pz, .int kc, .ref rc, .ref rl, .ref rb, .int la, .int ca])), (ra, .inl (cB, 16400, .inl fa)), (rr, .inl (cB, 4096, .inl fr))] := hD
  refine lv_aload_n hx hb d_Mo_encode_15 rfl (lv_at hl 0 rfl) ?_
  refine lv_iload_n hx hb d_Mo_encode_16 rfl (lv_at hl 1 rfl) ?_
  refine lv_i2l hx hb d_Mo_encode_17 rfl ?_
  have hPc := hP.sub (ws' := []) [] rfl
  have hKc := hK.sub (tys' := []) [] rfl
  refine vp_callSi (W.runS (As := [.long v.toInt64]) (rest := [.ref mo]) ⟨hx, hb, hml, hown, hg⟩ (c_Mo_isCode l dC dI (v.toInt64) ) (va_cwS 1 hg (gi_S kw_834 kw_835 kw_9 kw_836) rfl rfl rfl (by decide +kernel) ⟨Nat.le_of_ble_eq_true rfl, Nat.le_of_ble_eq_true rfl⟩) (zz_prJS hPc hKc _) rfl rfl hl.1 rfl (lv_room (Nat.le_of_ble_eq_true rfl)) d_Mo_encode_18 ⟨Nat.le_of_ble_eq_true rfl, Nat.le_of_ble_eq_true rfl⟩) (fun r_1 hr_1 => ?_)
  refine lv_if_eq (tgt := 28) hx hb d_Mo_encode_21 (by decide) (fun c_21 => ?_) (fun c_21 => ?_)
  · skip
    have hcn : 65533 = nI (ut_cn v.toInt) := en_f (by_z_f hr_1 c_21)
    refine W.ldc (v := 65533) hx hb hown (hg _ kw_833) rfl d_Mo_encode_28 ?_
    refine W.eq (g2 := F0 m 30 ls [.int 65533, .ref mo]) rfl ?_
    refine lv_topi (fun y_2 ey_2 => ?_)
    have ey_2 : y_2 = (nI (ut_cn v.toInt) : Int32) := ey_2.trans (show 65533 = nI (ut_cn v.toInt) from hcn)
    subst ey_2
    have hPc := hP.sub (ws' := [(mo, .inr (8, [.int 0, .int fd, .ref rt, .int mn, .ref rk, .ref rv, .ref rw, .ref ro, .int (nI ([] : List Nat).length), .ref rr, .int (nI ([] : List Nat).length), .ref ra, .long pz, .int kc, .ref rc, .ref rl, .ref rb, .int la, .int ca])), (ra, .inl (cB, 16400, .inl fa))]) [0, 1] rfl
    have hKc := hK.sub (tys' := [(cB, .byte)]) [0] rfl
    have hDc := hD.sub (ws' := [(mo, .inr (8, [.int 0, .int fd, .ref rt, .int mn, .ref rk, .ref rv, .ref rw, .ref ro, .int (nI ([] : List Nat).length), .ref rr, .int (nI ([] : List Nat).length), .ref ra, .long pz, .int kc, .ref rc, .ref rl, .ref rb, .int la, .int ca])), (ra, .inl (cB, 16400, .inl fa))]) [0, 1] (by decide) rfl
    have hFc := va_free (wc := [(mo, .inr (8, [.int 0, .int fd, .ref rt, .int mn, .ref rk, .ref rv, .ref rw, .ref ro, .int (nI ([] : List Nat).length), .ref rr, .int (nI ([] : List Nat).length), .ref ra, .long pz, .int kc, .ref rc, .ref rl, .ref rb, .int la, .int ca])), (ra, .inl (cB, 16400, .inl fa))]) hD hS hA [0, 1] rfl
    refine zz_callv (va_runV (As := [.int (nI (ut_cn v.toInt))]) (rest := []) ⟨hx, hb, hml, hown, hg⟩ (c_Mo_utf l dC dI mo rt rk rv rw ro rr ra rc rl rb 0 fd mn (nI ([] : List Nat).length) (nI ([] : List Nat).length) pz kc la ca cB fa ([] : List Nat) (ut_cn v.toInt) (by_nil _) (by (try simp only [List.length_append, List.length_cons, List.length_nil]); omega) (pp_cn _) H.size) (cwV 1 hg (gi_V kw_890 kw_892 sw_21 kw_9 kw_893) rfl rfl rfl (by decide +kernel) ⟨Nat.le_of_ble_eq_true rfl, Nat.le_of_ble_eq_true rfl⟩) (zz_preV hPc hKc hDc _ (q0 := 0) (ci := 8) rfl rfl) rfl rfl hl.1 rfl (lv_room (Nat.le_of_ble_eq_true rfl)) d_Mo_encode_30 ⟨Nat.le_of_ble_eq_true rfl, Nat.le_of_ble_eq_true rfl⟩) hS hFc (fun u H1 k9 p9 d9 => va_join (wr := [(rr, .inl (cB, 4096, .inl fr))]) hP hD [0, 1] [2] rfl rfl (by decide) (by decide) k9 hFc p9 d9) (fun u H locs hw hP hD hK1 hS => ?_)
    obtain ⟨u_3, rfl⟩ : ∃ z, z = u := ⟨_, rfl⟩
    try dsimp only at hw
    have hP : va_P (dC, dI) vwCl [(rr, .inl (cB, 4096, .inl fr)), (mo, .inr (8, [.int 0, .int fd, .ref rt, .int mn, .ref rk, .ref rv, .ref rw, .ref ro, .int (nI ([] : List Nat).length), .ref rr, .int (nI (([] : List Nat) ++ (ut_8 (ut_cn v.toInt))).length), .ref ra, .long pz, .int kc, .ref rc, .ref rl, .ref rb, .int la, .int ca])), (ra, .inl (cB, 16400, .inl u_3))] H := hP
    have hD : va_D A [(rr, .inl (cB, 4096, .inl fr)), (mo, .inr (8, [.int 0, .int fd, .ref rt, .int mn, .ref rk, .ref rv, .ref rw, .ref ro, .int (nI ([] : List Nat).length), .ref rr, .int (nI (([] : List Nat) ++ (ut_8 (ut_cn v.toInt))).length), .ref ra, .long pz, .int kc, .ref rc, .ref rl, .ref rb, .int la, .int ca])), (ra, .inl (cB, 16400, .inl u_3))] := hD
    have hL_5 := hw
    refine lv_aload_n hx hb d_Mo_encode_33 rfl (lv_at hl 0 rfl) ?_
    have hPc := hP.sub (ws' := [(mo, .inr (8, [.int 0, .int fd, .ref rt, .int mn, .ref rk, .ref rv, .ref rw, .ref ro, .int (nI ([] : List Nat).length), .ref rr, .int (nI (([] : List Nat) ++ (ut_8 (ut_cn v.toInt))).length), .ref ra, .long pz, .int kc, .ref rc, .ref rl, .ref rb, .int la, .int ca])), (ra, .inl (cB, 16400, .inl u_3)), (rr, .inl (cB, 4096, .inl fr))]) [1, 2, 0] rfl
    have hKc := hK.sub (tys' := [(cB, .byte)]) [0] rfl
    have hDc := hD.sub (ws' := [(mo, .inr (8, [.int 0, .int fd, .ref rt, .int mn, .ref rk, .ref rv, .ref rw, .ref ro, .int (nI ([] : List Nat).length), .ref rr, .int (nI (([] : List Nat) ++ (ut_8 (ut_cn v.toInt))).length), .ref ra, .long pz, .int kc, .ref rc, .ref rl, .ref rb, .int la, .int ca])), (ra, .inl (cB, 16400, .inl u_3)), (rr, .inl (cB, 4096, .inl fr))]) [1, 2, 0] (by decide) rfl
    have hFc := va_free (wc := [(mo, .inr (8, [.int 0, .int fd, .ref rt, .int mn, .ref rk, .ref rv, .ref rw, .ref ro, .int (nI ([] : List Nat).length), .ref rr, .int (nI (([] : List Nat) ++ (ut_8 (ut_cn v.toInt))).length), .ref ra, .long pz, .int kc, .ref rc, .ref rl, .ref rb, .int la, .int ca])), (ra, .inl (cB, 16400, .inl u_3)), (rr, .inl (cB, 4096, .inl fr))]) hD hS hA [1, 2, 0] rfl
    refine zz_callv (va_runV (As := []) (rest := []) ⟨hx, hb, hml, hown, hg⟩ (c_Mo_giveParts l dC dI mo rt rk rv rw ro rr ra rc rl rb 0 fd mn (nI ([] : List Nat).length) (nI (([] : List Nat) ++ (ut_8 (ut_cn v.toInt))).length) pz kc la ca cB u_3 (([] : List Nat) ++ (ut_8 (ut_cn v.toInt))) fr ([] : List Nat) hL_5 (by have := ut_8l (ut_cn v.toInt); rw [List.nil_append]; omega) (by_nil _) (by decide) H.size) (cwV 0 hg (gi_V kw_940 kw_942 sw_28 kw_9 kw_943) rfl rfl rfl (by decide +kernel) ⟨Nat.le_of_ble_eq_true rfl, Nat.le_of_ble_eq_true rfl⟩) (zz_preV hPc hKc hDc _ (q0 := 0) (ci := 8) rfl rfl) rfl rfl hl.1 rfl (lv_room (Nat.le_of_ble_eq_true rfl)) d_Mo_encode_34 ⟨Nat.le_of_ble_eq_true rfl, Nat.le_of_ble_eq_true rfl⟩) hS hFc (fun u H1 k9 p9 d9 => va_join (wr := []) hP hD [1, 2, 0] [] rfl rfl (by decide) (by decide) k9 hFc p9 d9) (fun u H locs hw hP hD hK1 hS => ?_)
    obtain ⟨u_6, rfl⟩ : ∃ z, z = u := ⟨_, rfl⟩
    try dsimp only at hw
    have hP : va_P (dC, dI) vwCl [(mo, .inr (8, [.int 0, .int fd, .ref rt, .int mn, .ref rk, .ref rv, .ref rw, .ref ro, .int (nI (by_ap 4096 ([] : List Nat) (([] : List Nat) ++ (ut_8 (ut_cn v.toInt)))).length), .ref rr, .int (nI (([] : List Nat) ++ (ut_8 (ut_cn v.toInt))).length), .ref ra, .long pz, .int kc, .ref rc, .ref rl, .ref rb, .int la, .int ca])), (ra, .inl (cB, 16400, .inl u_3)), (rr, .inl (cB, 4096, .inl u_6))] H := hP
    have hD : va_D A [(mo, .inr (8, [.int 0, .int fd, .ref rt, .int mn, .ref rk, .ref rv, .ref rw, .ref ro, .int (nI (by_ap 4096 ([] : List Nat) (([] : List Nat) ++ (ut_8 (ut_cn v.toInt)))).length), .ref rr, .int (nI (([] : List Nat) ++ (ut_8 (ut_cn v.toInt))).length), .ref ra, .long pz, .int kc, .ref rc, .ref rl, .ref rb, .int la, .int ca])), (ra, .inl (cB, 16400, .inl u_3)), (rr, .inl (cB, 4096, .inl u_6))] := hD
    have hLg := hw
    refine lv_aload_n hx hb d_Mo_encode_37 rfl (lv_at hl 0 rfl) ?_
    refine va_get (D := (dC, dI)) (ci := 8) (v := .int (nI (by_ap 4096 ([] : List Nat) (([] : List Nat) ++ (ut_8 (ut_cn v.toInt)))).length)) (C := "TextForgeModel") (T := TX8) (N := 19) hx hb hg iwX8 hown hK hP 0 rfl rfl 8 (by decide) (hg _ kw_734) (fun _ h9 => h9) rfl d_Mo_encode_38 ?_
    have hP9 := hP.sub (ws' := [(mo, .inr (8, [.int 0, .int fd, .ref rt, .int mn, .ref rk, .ref rv, .ref rw, .ref ro, .int (nI (by_ap 4096 ([] : List Nat) (([] : List Nat) ++ (ut_8 (ut_cn v.toInt)))).length), .ref rr, .int (nI (([] : List Nat) ++ (ut_8 (ut_cn v.toInt))).length), .ref ra, .long pz, .int kc, .ref rc, .ref rl, .ref rb, .int la, .int ca])), (ra, .inl (cB, 16400, .inl u_3)), (rr, .inl (cB, 4096, .inl u_6))]) [0, 1, 2] rfl
    have hD9 := hD.sub (ws' := [(mo, .inr (8, [.int 0, .int fd, .ref rt, .int mn, .ref rk, .ref rv, .ref rw, .ref ro, .int (nI (by_ap 4096 ([] : List Nat) (([] : List Nat) ++ (ut_8 (ut_cn v.toInt)))).length), .ref rr, .int (nI (([] : List Nat) ++ (ut_8 (ut_cn v.toInt))).length), .ref ra, .long pz, .int kc, .ref rc, .ref rl, .ref rb, .int la, .int ca])), (ra, .inl (cB, 16400, .inl u_3)), (rr, .inl (cB, 4096, .inl u_6))]) [0, 1, 2] (by decide) rfl
    have hK9 := hK.sub (tys' := [(cB, .byte)]) [0] rfl
    exact zz_iret hx hb hr hlocks d_Mo_encode_41 hS (by first | exact Nat.le_refl _ | decide | omega | (dsimp only; omega)) (by first | exact Nat.le_refl _ | decide | omega | (dsimp only; omega)) (u_3, u_6) ⟨rfl, hLg⟩ hP9 hK9 hD9
  · skip
    have hcn : v = nI (ut_cn v.toInt) := en_t (by_z_t hr_1 c_21)
    refine lv_iload_n hx hb d_Mo_encode_24 rfl (lv_at hl 1 rfl) ?_
    refine lv_goto (tgt := 30) hx hb d_Mo_encode_25 (by decide) ?_
    refine lv_topi (fun y_8 ey_8 => ?_)
    have ey_8 : y_8 = (nI (ut_cn v.toInt) : Int32) := ey_8.trans (show v = nI (ut_cn v.toInt) from hcn)
    subst ey_8
    have hPc := hP.sub (ws' := [(mo, .inr (8, [.int 0, .int fd, .ref rt, .int mn, .ref rk, .ref rv, .ref rw, .ref ro, .int (nI ([] : List Nat).length), .ref rr, .int (nI ([] : List Nat).length), .ref ra, .long pz, .int kc, .ref rc, .ref rl, .ref rb, .int la, .int ca])), (ra, .inl (cB, 16400, .inl fa))]) [0, 1] rfl
    have hKc := hK.sub (tys' := [(cB, .byte)]) [0] rfl
    have hDc := hD.sub (ws' := [(mo, .inr (8, [.int 0, .int fd, .ref rt, .int mn, .ref rk, .ref rv, .ref rw, .ref ro, .int (nI ([] : List Nat).length), .ref rr, .int (nI ([] : List Nat).length), .ref ra, .long pz, .int kc, .ref rc, .ref rl, .ref rb, .int la, .int ca])), (ra, .inl (cB, 16400, .inl fa))]) [0, 1] (by decide) rfl
    have hFc := va_free (wc := [(mo, .inr (8, [.int 0, .int fd, .ref rt, .int mn, .ref rk, .ref rv, .ref rw, .ref ro, .int (nI ([] : List Nat).length), .ref rr, .int (nI ([] : List Nat).length), .ref ra, .long pz, .int kc, .ref rc, .ref rl, .ref rb, .int la, .int ca])), (ra, .inl (cB, 16400, .inl fa))]) hD hS hA [0, 1] rfl
    refine zz_callv (va_runV (As := [.int (nI (ut_cn v.toInt))]) (rest := []) ⟨hx, hb, hml, hown, hg⟩ (c_Mo_utf l dC dI mo rt rk rv rw ro rr ra rc rl rb 0 fd mn (nI ([] : List Nat).length) (nI ([] : List Nat).length) pz kc la ca cB fa ([] : List Nat) (ut_cn v.toInt) (by_nil _) (by (try simp only [List.length_append, List.length_cons, List.length_nil]); omega) (pp_cn _) H.size) (cwV 1 hg (gi_V kw_890 kw_892 sw_21 kw_9 kw_893) rfl rfl rfl (by decide +kernel) ⟨Nat.le_of_ble_eq_true rfl, Nat.le_of_ble_eq_true rfl⟩) (zz_preV hPc hKc hDc _ (q0 := 0) (ci := 8) rfl rfl) rfl rfl hl.1 rfl (lv_room (Nat.le_of_ble_eq_true rfl)) d_Mo_encode_30 ⟨Nat.le_of_ble_eq_true rfl, Nat.le_of_ble_eq_true rfl⟩) hS hFc (fun u H1 k9 p9 d9 => va_join (wr := [(rr, .inl (cB, 4096, .inl fr))]) hP hD [0, 1] [2] rfl rfl (by decide) (by decide) k9 hFc p9 d9) (fun u H locs hw hP hD hK1 hS => ?_)
    obtain ⟨u_9, rfl⟩ : ∃ z, z = u := ⟨_, rfl⟩
    try dsimp only at hw
    have hP : va_P (dC, dI) vwCl [(rr, .inl (cB, 4096, .inl fr)), (mo, .inr (8, [.int 0, .int fd, .ref rt, .int mn, .ref rk, .ref rv, .ref rw, .ref ro, .int (nI ([] : List Nat).length), .ref rr, .int (nI (([] : List Nat) ++ (ut_8 (ut_cn v.toInt))).length), .ref ra, .long pz, .int kc, .ref rc, .ref rl, .ref rb, .int la, .int ca])), (ra, .inl (cB, 16400, .inl u_9))] H := hP
    have hD : va_D A [(rr, .inl (cB, 4096, .inl fr)), (mo, .inr (8, [.int 0, .int fd, .ref rt, .int mn, .ref rk, .ref rv, .ref rw, .ref ro, .int (nI ([] : List Nat).length), .ref rr, .int (nI (([] : List Nat) ++ (ut_8 (ut_cn v.toInt))).length), .ref ra, .long pz, .int kc, .ref rc, .ref rl, .ref rb, .int la, .int ca])), (ra, .inl (cB, 16400, .inl u_9))] := hD
    have hL_11 := hw
    refine lv_aload_n hx hb d_Mo_encode_33 rfl (lv_at hl 0 rfl) ?_
    have hPc := hP.sub (ws' := [(mo, .inr (8, [.int 0, .int fd, .ref rt, .int mn, .ref rk, .ref rv, .ref rw, .ref ro, .int (nI ([] : List Nat).length), .ref rr, .int (nI (([] : List Nat) ++ (ut_8 (ut_cn v.toInt))).length), .ref ra, .long pz, .int kc, .ref rc, .ref rl, .ref rb, .int la, .int ca])), (ra, .inl (cB, 16400, .inl u_9)), (rr, .inl (cB, 4096, .inl fr))]) [1, 2, 0] rfl
    have hKc := hK.sub (tys' := [(cB, .byte)]) [0] rfl
    have hDc := hD.sub (ws' := [(mo, .inr (8, [.int 0, .int fd, .ref rt, .int mn, .ref rk, .ref rv, .ref rw, .ref ro, .int (nI ([] : List Nat).length), .ref rr, .int (nI (([] : List Nat) ++ (ut_8 (ut_cn v.toInt))).length), .ref ra, .long pz, .int kc, .ref rc, .ref rl, .ref rb, .int la, .int ca])), (ra, .inl (cB, 16400, .inl u_9)), (rr, .inl (cB, 4096, .inl fr))]) [1, 2, 0] (by decide) rfl
    have hFc := va_free (wc := [(mo, .inr (8, [.int 0, .int fd, .ref rt, .int mn, .ref rk, .ref rv, .ref rw, .ref ro, .int (nI ([] : List Nat).length), .ref rr, .int (nI (([] : List Nat) ++ (ut_8 (ut_cn v.toInt))).length), .ref ra, .long pz, .int kc, .ref rc, .ref rl, .ref rb, .int la, .int ca])), (ra, .inl (cB, 16400, .inl u_9)), (rr, .inl (cB, 4096, .inl fr))]) hD hS hA [1, 2, 0] rfl
    refine zz_callv (va_runV (As := []) (rest := []) ⟨hx, hb, hml, hown, hg⟩ (c_Mo_giveParts l dC dI mo rt rk rv rw ro rr ra rc rl rb 0 fd mn (nI ([] : List Nat).length) (nI (([] : List Nat) ++ (ut_8 (ut_cn v.toInt))).length) pz kc la ca cB u_9 (([] : List Nat) ++ (ut_8 (ut_cn v.toInt))) fr ([] : List Nat) hL_11 (by have := ut_8l (ut_cn v.toInt); rw [List.nil_append]; omega) (by_nil _) (by decide) H.size) (cwV 0 hg (gi_V kw_940 kw_942 sw_28 kw_9 kw_943) rfl rfl rfl (by decide +kernel) ⟨Nat.le_of_ble_eq_true rfl, Nat.le_of_ble_eq_true rfl⟩) (zz_preV hPc hKc hDc _ (q0 := 0) (ci := 8) rfl rfl) rfl rfl hl.1 rfl (lv_room (Nat.le_of_ble_eq_true rfl)) d_Mo_encode_34 ⟨Nat.le_of_ble_eq_true rfl, Nat.le_of_ble_eq_true rfl⟩) hS hFc (fun u H1 k9 p9 d9 => va_join (wr := []) hP hD [1, 2, 0] [] rfl rfl (by decide) (by decide) k9 hFc p9 d9) (fun u H locs hw hP hD hK1 hS => ?_)
    obtain ⟨u_12, rfl⟩ : ∃ z, z = u := ⟨_, rfl⟩
    try dsimp only at hw
    have hP : va_P (dC, dI) vwCl [(mo, .inr (8, [.int 0, .int fd, .ref rt, .int mn, .ref rk, .ref rv, .ref rw, .ref ro, .int (nI (by_ap 4096 ([] : List Nat) (([] : List Nat) ++ (ut_8 (ut_cn v.toInt)))).length), .ref rr, .int (nI (([] : List Nat) ++ (ut_8 (ut_cn v.toInt))).length), .ref ra, .long pz, .int kc, .ref rc, .ref rl, .ref rb, .int la, .int ca])), (ra, .inl (cB, 16400, .inl u_9)), (rr, .inl (cB, 4096, .inl u_12))] H := hP
    have hD : va_D A [(mo, .inr (8, [.int 0, .int fd, .ref rt, .int mn, .ref rk, .ref rv, .ref rw, .ref ro, .int (nI (by_ap 4096 ([] : List Nat) (([] : List Nat) ++ (ut_8 (ut_cn v.toInt)))).length), .ref rr, .int (nI (([] : List Nat) ++ (ut_8 (ut_cn v.toInt))).length), .ref ra, .long pz, .int kc, .ref rc, .ref rl, .ref rb, .int la, .int ca])), (ra, .inl (cB, 16400, .inl u_9)), (rr, .inl (cB, 4096, .inl u_12))] := hD
    have hLg := hw
    refine lv_aload_n hx hb d_Mo_encode_37 rfl (lv_at hl 0 rfl) ?_
    refine va_get (D := (dC, dI)) (ci := 8) (v := .int (nI (by_ap 4096 ([] : List Nat) (([] : List Nat) ++ (ut_8 (ut_cn v.toInt)))).length)) (C := "TextForgeModel") (T := TX8) (N := 19) hx hb hg iwX8 hown hK hP 0 rfl rfl 8 (by decide) (hg _ kw_734) (fun _ h9 => h9) rfl d_Mo_encode_38 ?_
    have hP9 := hP.sub (ws' := [(mo, .inr (8, [.int 0, .int fd, .ref rt, .int mn, .ref rk, .ref rv, .ref rw, .ref ro, .int (nI (by_ap 4096 ([] : List Nat) (([] : List Nat) ++ (ut_8 (ut_cn v.toInt)))).length), .ref rr, .int (nI (([] : List Nat) ++ (ut_8 (ut_cn v.toInt))).length), .ref ra, .long pz, .int kc, .ref rc, .ref rl, .ref rb, .int la, .int ca])), (ra, .inl (cB, 16400, .inl u_9)), (rr, .inl (cB, 4096, .inl u_12))]) [0, 1, 2] rfl
    have hD9 := hD.sub (ws' := [(mo, .inr (8, [.int 0, .int fd, .ref rt, .int mn, .ref rk, .ref rv, .ref rw, .ref ro, .int (nI (by_ap 4096 ([] : List Nat) (([] : List Nat) ++ (ut_8 (ut_cn v.toInt)))).length), .ref rr, .int (nI (([] : List Nat) ++ (ut_8 (ut_cn v.toInt))).length), .ref ra, .long pz, .int kc, .ref rc, .ref rl, .ref rb, .int la, .int ca])), (ra, .inl (cB, 16400, .inl u_9)), (rr, .inl (cB, 4096, .inl u_12))]) [0, 1, 2] (by decide) rfl
    have hK9 := hK.sub (tys' := [(cB, .byte)]) [0] rfl
    exact zz_iret hx hb hr hlocks d_Mo_encode_41 hS (by first | exact Nat.le_refl _ | decide | omega | (dsimp only; omega)) (by first | exact Nat.le_refl _ | decide | omega | (dsimp only; omega)) (u_9, u_12) ⟨rfl, hLg⟩ hP9 hK9 hD9
abbrev y_Mo_quote : MethodName := ⟨"TextForgeModel", "quote", "()I"⟩
abbrev w_Mo_quote : List Cond := Cond.code y_Mo_quote prog_12_method_38_code 1 (some .int) :: gw
theorem d_Mo_quote_0 : decode prog_12_method_38_code 0 = .ok (.aload_n 0, 1) := by decide +kernel
theorem d_Mo_quote_1 : decode prog_12_method_38_code 1 = .ok (.iconst 0, 1) := by decide +kernel
theorem d_Mo_quote_2 : decode prog_12_method_38_code 2 = .ok (.putfield 43, 3) := by decide +kernel
theorem d_Mo_quote_5 : decode prog_12_method_38_code 5 = .ok (.aload_n 0, 1) := by decide +kernel
theorem d_Mo_quote_6 : decode prog_12_method_38_code 6 = .ok (.iconst 0, 1) := by decide +kernel
theorem d_Mo_quote_7 : decode prog_12_method_38_code 7 = .ok (.putfield 78, 3) := by decide +kernel
theorem d_Mo_quote_10 : decode prog_12_method_38_code 10 = .ok (.aload_n 0, 1) := by decide +kernel
theorem d_Mo_quote_11 : decode prog_12_method_38_code 11 = .ok (.iconst 0, 1) := by decide +kernel
theorem d_Mo_quote_12 : decode prog_12_method_38_code 12 = .ok (.putfield 61, 3) := by decide +kernel
theorem d_Mo_quote_15 : decode prog_12_method_38_code 15 = .ok (.aload_n 0, 1) := by decide +kernel
theorem d_Mo_quote_16 : decode prog_12_method_38_code 16 = .ok (.aload_n 0, 1) := by decide +kernel
theorem d_Mo_quote_17 : decode prog_12_method_38_code 17 = .ok (.getfield 7, 3) := by decide +kernel
theorem d_Mo_quote_20 : decode prog_12_method_38_code 20 = .ok (.iconst 0, 1) := by decide +kernel
theorem d_Mo_quote_21 : decode prog_12_method_38_code 21 = .ok (.aload_n 0, 1) := by decide +kernel
theorem d_Mo_quote_22 : decode prog_12_method_38_code 22 = .ok (.getfield 47, 3) := by decide +kernel
theorem d_Mo_quote_25 : decode prog_12_method_38_code 25 = .ok (.invokevirtual 182, 3) := by decide +kernel
theorem d_Mo_quote_28 : decode prog_12_method_38_code 28 = .ok (.aload_n 0, 1) := by decide +kernel
theorem d_Mo_quote_29 : decode prog_12_method_38_code 29 = .ok (.invokevirtual 199, 3) := by decide +kernel
theorem d_Mo_quote_32 : decode prog_12_method_38_code 32 = .ok (.aload_n 0, 1) := by decide +kernel
theorem d_Mo_quote_33 : decode prog_12_method_38_code 33 = .ok (.iconst 0, 1) := by decide +kernel
theorem d_Mo_quote_34 : decode prog_12_method_38_code 34 = .ok (.putfield 47, 3) := by decide +kernel
theorem d_Mo_quote_37 : decode prog_12_method_38_code 37 = .ok (.aload_n 0, 1) := by decide +kernel
theorem d_Mo_quote_38 : decode prog_12_method_38_code 38 = .ok (.getfield 78, 3) := by decide +kernel
theorem d_Mo_quote_41 : decode prog_12_method_38_code 41 = .ok (.ireturn, 1) := by decide +kernel
set_option maxHeartbeats 4000000 in
set_option maxRecDepth 100000 in
theorem c_Mo_quote (l : Launch) (dC : Nat → ClassId) (dI : Nat → Nat → Nat) (ad : Nat → Nat) (mo rt rk rv rw ro rr ra rc rl rb : Nat) (th fd mn md pt : Int32) (pz : Int64) (kc la ca : Int32) (cB : ClassId) (ft : Nat → Int32) (F : List Nat) (fa fr : Nat → Int32) (hLt : by_L F ft) (hct : F.length ≤ 4096) : yM_i (S := (Nat → Int32) × (Nat → Int32) × Int32 × Int32) ad l y_Mo_quote w_Mo_quote { frames := 6, cells := 0, slots := 0, locals := 131 } (dC, dI) vwCl [.ref mo] [(mo, .inr (8, [.int th, .int (nI F.length), .ref rt, .int mn, .ref rk, .ref rv, .ref rw, .ref ro, .int md, .ref rr, .int pt, .ref ra, .long pz, .int kc, .ref rc, .ref rl, .ref rb, .int la, .int ca])), (rt, .inl (cB, 4096, .inl ft)), (ra, .inl (cB, 16400, .inl fa)), (rr, .inl (cB, 4096, .inl fr))] [(cB, .byte)] (fun (r : Int32) (u : (Nat → Int32) × (Nat → Int32) × Int32 × Int32) => match u with | (g1, g2, la1, ca1) => r = nI (List.take 4096 (qu_t F)).length ∧ by_L (List.take 4096 (qu_t F)) g2) (fun u => match u with | (g1, g2, la1, ca1) => [(mo, .inr (8, [.int 0, .int 0, .ref rt, .int mn, .ref rk, .ref rv, .ref rw, .ref ro, .int (nI (List.take 4096 (qu_t F)).length), .ref rr, .int (nI ([] ++ (qu_t F)).length), .ref ra, .long pz, .int kc, .ref rc, .ref rl, .ref rb, .int la1, .int ca1])), (rt, .inl (cB, 4096, .inl ft)), (ra, .inl (cB, 16400, .inl g1)), (rr, .inl (cB, 4096, .inl g2))]) (fun u => match u with | (g1, g2, la1, ca1) => [(cB, .byte)]) 0 0 := by
  refine zy_enteri (cc := prog_12_method_38_code) (nL := 1) (ret := (some .int)) (by decide) rfl (Nat.le_of_ble_eq_true rfl) ?_
  intro p e s m below meth c A ls C0 hA hS hP hK hD hl hX
  obtain ⟨hx, hb, hml, hown, hg, hr, hlocks, hin⟩ := C0
  have hown : s.vm.findClass "TextForgeModel" = some m.cls := hown
  have hP : va_P (dC, dI) vwCl [(mo, .inr (8, [.int th, .int (nI F.length), .ref rt, .int mn, .ref rk, .ref rv, .ref rw, .ref ro, .int md, .ref rr, .int pt, .ref ra, .long pz, .int kc, .ref rc, .ref rl, .ref rb, .int la, .int ca])), (rt, .inl (cB, 4096, .inl ft)), (ra, .inl (cB, 16400, .inl fa)), (rr, .inl (cB, 4096, .inl fr))] s.heap := hP
  have hK : va_K (dC, dI) vwCl [(cB, .byte)] s := hK
  have hD : va_D A [(mo, .inr (8, [.int th, .int (nI F.length), .ref rt, .int mn, .ref rk, .ref rv, .ref rw, .ref ro, .int md, .ref rr, .int pt, .ref ra, .long pz, .int kc, .ref rc, .ref rl, .ref rb, .int la, .int ca])), (rt, .inl (cB, 4096, .inl ft)), (ra, .inl (cB, 16400, .inl fa)), (rr, .inl (cB, 4096, .inl fr))] := hD
  have hl : lv_has ls 1 [(0, .ref mo)] := hl
  refine lv_aload_n hx hb d_Mo_quote_0 rfl (lv_at hl 0 rfl) ?_
  refine lv_iconst (v := 0) hx hb d_Mo_quote_1 (by decide) ?_
  refine va_put (D := (dC, dI)) (ci := 8) (v := .int 0) (ty := .int) (C := "TextForgeModel") (T := TX8) (N := 19) hx hb hg iwX8 tyX8 tyX8_ok nmX8 hown hK hP hD hS 0 rfl rfl 0 (by decide) (hg _ kw_726) (fun _ h9 => h9) rfl (by decide +kernel) rfl rfl (Nat.le_of_ble_eq_true rfl) d_Mo_quote_2 (fun H locs hP hD hS => ?_)
  have hP : va_P (dC, dI) vwCl [(mo, .inr (8, [.int 0, .int (nI F.length), .ref rt, .int mn, .ref rk, .ref rv, .ref rw, .ref ro, .int md, .ref rr, .int pt, .ref ra, .long pz, .int kc, .ref rc, .ref rl, .ref rb, .int la, .int ca])), (rt, .inl (cB, 4096, .inl ft)), (ra, .inl (cB, 16400, .inl fa)), (rr, .inl (cB, 4096, .inl fr))] H := hP
  have hD : va_D A [(mo, .inr (8, [.int 0, .int (nI F.length), .ref rt, .int mn, .ref rk, .ref rv, .ref rw, .ref ro, .int md, .ref rr, .int pt, .ref ra, .long pz, .int kc, .ref rc, .ref rl, .ref rb, .int la, .int ca])), (rt, .inl (cB, 4096, .inl ft)), (ra, .inl (cB, 16400, .inl fa)), (rr, .inl (cB, 4096, .inl fr))] := hD
  refine lv_aload_n hx hb d_Mo_quote_5 rfl (lv_at hl 0 rfl) ?_
  refine lv_iconst (v := 0) hx hb d_Mo_quote_6 (by decide) ?_
  refine va_put (D := (dC, dI)) (ci := 8) (v := .int 0) (ty := .int) (C := "TextForgeModel") (T := TX8) (N := 19) hx hb hg iwX8 tyX8 tyX8_ok nmX8 hown hK hP hD hS 0 rfl rfl 8 (by decide) (hg _ kw_734) (fun _ h9 => h9) rfl (by decide +kernel) rfl rfl (Nat.le_of_ble_eq_true rfl) d_Mo_quote_7 (fun H locs hP hD hS => ?_)
  have hP : va_P (dC, dI) vwCl [(mo, .inr (8, [.int 0, .int (nI F.length), .ref rt, .int mn, .ref rk, .ref rv, .ref rw, .ref ro, .int 0, .ref rr, .int pt, .ref ra, .long pz, .int kc, .ref rc, .ref rl, .ref rb, .int la, .int ca])), (rt, .inl (cB, 4096, .inl ft)), (ra, .inl (cB, 16400, .inl fa)), (rr, .inl (cB, 4096, .inl fr))] H := hP
  have hD : va_D A [(mo, .inr (8, [.int 0, .int (nI F.length), .ref rt, .int mn, .ref rk, .ref rv, .ref rw, .ref ro, .int 0, .ref rr, .int pt, .ref ra, .long pz, .int kc, .ref rc, .ref rl, .ref rb, .int la, .int ca])), (rt, .inl (cB, 4096, .inl ft)), (ra, .inl (cB, 16400, .inl fa)), (rr, .inl (cB, 4096, .inl fr))] := hD
  refine lv_aload_n hx hb d_Mo_quote_10 rfl (lv_at hl 0 rfl) ?_
  refine lv_iconst (v := 0) hx hb d_Mo_quote_11 (by decide) ?_
  refine va_put (D := (dC, dI)) (ci := 8) (v := .int 0) (ty := .int) (C := "TextForgeModel") (T := TX8) (N := 19) hx hb hg iwX8 tyX8 tyX8_ok nmX8 hown hK hP hD hS 0 rfl rfl 10 (by decide) (hg _ kw_736) (fun _ h9 => h9) rfl (by decide +kernel) rfl rfl (Nat.le_of_ble_eq_true rfl) d_Mo_quote_12 (fun H locs hP hD hS => ?_)
  have hP : va_P (dC, dI) vwCl [(mo, .inr (8, [.int 0, .int (nI F.length), .ref rt, .int mn, .ref rk, .ref rv, .ref rw, .ref ro, .int 0, .ref rr, .int 0, .ref ra, .long pz, .int kc, .ref rc, .ref rl, .ref rb, .int la, .int ca])), (rt, .inl (cB, 4096, .inl ft)), (ra, .inl (cB, 16400, .inl fa)), (rr, .inl (cB, 4096, .inl fr))] H := hP
  have hD : va_D A [(mo, .inr (8, [.int 0, .int (nI F.length), .ref rt, .int mn, .ref rk, .ref rv, .ref rw, .ref ro, .int 0, .ref rr, .int 0, .ref ra, .long pz, .int kc, .ref rc, .ref rl, .ref rb, .int la, .int ca])), (rt, .inl (cB, 4096, .inl ft)), (ra, .inl (cB, 16400, .inl fa)), (rr, .inl (cB, 4096, .inl fr))] := hD
  have hP : va_P (dC, dI) vwCl [(mo, .inr (8, [.int 0, .int (nI F.length), .ref rt, .int mn, .ref rk, .ref rv, .ref rw, .ref ro, .int (nI ([] : List Nat).length), .ref rr, .int (nI ([] : List Nat).length), .ref ra, .long pz, .int kc, .ref rc, .ref rl, .ref rb, .int la, .int ca])), (rt, .inl (cB, 4096, .inl ft)), (ra, .inl (cB, 16400, .inl fa)), (rr, .inl (cB, 4096, .inl fr))] H := hP
  have hD : va_D A [(mo, .inr (8, [.int 0, .int (nI F.length), .ref rt, .int mn, .ref rk, .ref rv, .ref rw, .ref ro, .int (nI ([] : List Nat).length), .ref rr, .int (nI ([] : List Nat).length), .ref ra, .long pz, .int kc, .ref rc, .ref rl, .ref rb, .int la, .int ca])), (rt, .inl (cB, 4096, .inl ft)), (ra, .inl (cB, 16400, .inl fa)), (rr, .inl (cB, 4096, .inl fr))] := hD
  refine lv_aload_n hx hb d_Mo_quote_15 rfl (lv_at hl 0 rfl) ?_
  refine lv_aload_n hx hb d_Mo_quote_16 rfl (lv_at hl 0 rfl) ?_
  refine va_get (D := (dC, dI)) (ci := 8) (v := .ref rt) (C := "TextForgeModel") (T := TX8) (N := 19) hx hb hg iwX8 hown hK hP 0 rfl rfl 2 (by decide) (hg _ kw_728) (fun _ h9 => h9) rfl d_Mo_quote_17 ?_
  refine lv_iconst (v := 0) hx hb d_Mo_quote_20 (by decide) ?_
  refine lv_aload_n hx hb d_Mo_quote_21 rfl (lv_at hl 0 rfl) ?_
  refine va_get (D := (dC, dI)) (ci := 8) (v := .int (nI F.length)) (C := "TextForgeModel") (T := TX8) (N := 19) hx hb hg iwX8 hown hK hP 0 rfl rfl 1 (by decide) (hg _ kw_727) (fun _ h9 => h9) rfl d_Mo_quote_22 ?_
  have hPc := hP.sub (ws' := [(mo, .inr (8, [.int 0, .int (nI F.length), .ref rt, .int mn, .ref rk, .ref rv, .ref rw, .ref ro, .int (nI ([] : List Nat).length), .ref rr, .int (nI [].length), .ref ra, .long pz, .int kc, .ref rc, .ref rl, .ref rb, .int la, .int ca])), (ra, .inl (cB, 16400, .inl fa)), (rt, .inl (cB, 4096, .inl ft))]) [0, 2, 1] rfl
  have hKc := hK.sub (tys' := [(cB, .byte)]) [0] rfl
  have hDc := hD.sub (ws' := [(mo, .inr (8, [.int 0, .int (nI F.length), .ref rt, .int mn, .ref rk, .ref rv, .ref rw, .ref ro, .int (nI ([] : List Nat).length), .ref rr, .int (nI [].length), .ref ra, .long pz, .int kc, .ref rc, .ref rl, .ref rb, .int la, .int ca])), (ra, .inl (cB, 16400, .inl fa)), (rt, .inl (cB, 4096, .inl ft))]) [0, 2, 1] (by decide) rfl
  have hFc := va_free (wc := [(mo, .inr (8, [.int 0, .int (nI F.length), .ref rt, .int mn, .ref rk, .ref rv, .ref rw, .ref ro, .int (nI ([] : List Nat).length), .ref rr, .int (nI [].length), .ref ra, .long pz, .int kc, .ref rc, .ref rl, .ref rb, .int la, .int ca])), (ra, .inl (cB, 16400, .inl fa)), (rt, .inl (cB, 4096, .inl ft))]) hD hS hA [0, 2, 1] rfl
  refine zz_callv (va_runV (As := [.ref rt, .int 0, .int (nI F.length)]) (rest := []) ⟨hx, hb, hml, hown, hg⟩ (c_Mo_quoteRow l dC dI ad mo rt rk rv rw ro rr ra rc rl rb 0 (nI F.length) mn (nI ([] : List Nat).length) (nI ([] : List Nat).length) pz kc la ca rt 4096 cB ft F 0 fa [] (fun t ht => ⟨(hLt t ht).1, by rw [Nat.zero_add]; exact (hLt t ht).2⟩) (by omega) (by decide) (by_nil _) (show 0 + (4 * F.length + 2) ≤ 16400 by omega) H.size) (cwV 3 hg (gi_V kw_904 kw_906 sw_24 kw_9 kw_907) rfl rfl rfl (by decide +kernel) ⟨Nat.le_of_ble_eq_true rfl, Nat.le_of_ble_eq_true rfl⟩) (zy_preV hX hS hFc hPc hKc hDc _ (q0 := 0) (ci := 8) rfl rfl) rfl rfl hl.1 rfl (lv_room (Nat.le_of_ble_eq_true rfl)) d_Mo_quote_25 ⟨Nat.le_of_ble_eq_true rfl, Nat.le_of_ble_eq_true rfl⟩) hS hFc (fun u H1 k9 p9 d9 => va_join (wr := [(rr, .inl (cB, 4096, .inl fr))]) hP hD [0, 2, 1] [3] rfl rfl (by decide) (by decide) k9 hFc p9 d9) (fun u H locs hw hP hD hK1 hS => ?_)
  obtain ⟨g5, la5, ca5⟩ := u
  try dsimp only at hw
  have hP : va_P (dC, dI) vwCl [(rr, .inl (cB, 4096, .inl fr)), (mo, .inr (8, [.int 0, .int (nI F.length), .ref rt, .int mn, .ref rk, .ref rv, .ref rw, .ref ro, .int (nI ([] : List Nat).length), .ref rr, .int (nI ([] ++ qu_t F).length), .ref ra, .long pz, .int kc, .ref rc, .ref rl, .ref rb, .int la5, .int ca5])), (ra, .inl (cB, 16400, .inl g5)), (rt, .inl (cB, 4096, .inl ft))] H := hP
  have hD : va_D A [(rr, .inl (cB, 4096, .inl fr)), (mo, .inr (8, [.int 0, .int (nI F.length), .ref rt, .int mn, .ref rk, .ref rv, .ref rw, .ref ro, .int (nI ([] : List Nat).length), .ref rr, .int (nI ([] ++ qu_t F).length), .ref ra, .long pz, .int kc, .ref rc, .ref rl, .ref rb, .int la5, .int ca5])), (ra, .inl (cB, 16400, .inl g5)), (rt, .inl (cB, 4096, .inl ft))] := hD
  have hLQ := hw
  refine lv_aload_n hx hb d_Mo_quote_28 rfl (lv_at hl 0 rfl) ?_
  have hPc := hP.sub (ws' := [(mo, .inr (8, [.int 0, .int (nI F.length), .ref rt, .int mn, .ref rk, .ref rv, .ref rw, .ref ro, .int (nI ([] : List Nat).length), .ref rr, .int (nI ([] ++ qu_t F).length), .ref ra, .long pz, .int kc, .ref rc, .ref rl, .ref rb, .int la5, .int ca5])), (ra, .inl (cB, 16400, .inl g5)), (rr, .inl (cB, 4096, .inl fr))]) [1, 2, 0] rfl
  have hKc := hK.sub (tys' := [(cB, .byte)]) [0] rfl
  have hDc := hD.sub (ws' := [(mo, .inr (8, [.int 0, .int (nI F.length), .ref rt, .int mn, .ref rk, .ref rv, .ref rw, .ref ro, .int (nI ([] : List Nat).length), .ref rr, .int (nI ([] ++ qu_t F).length), .ref ra, .long pz, .int kc, .ref rc, .ref rl, .ref rb, .int la5, .int ca5])), (ra, .inl (cB, 16400, .inl g5)), (rr, .inl (cB, 4096, .inl fr))]) [1, 2, 0] (by decide) rfl
  have hFc := va_free (wc := [(mo, .inr (8, [.int 0, .int (nI F.length), .ref rt, .int mn, .ref rk, .ref rv, .ref rw, .ref ro, .int (nI ([] : List Nat).length), .ref rr, .int (nI ([] ++ qu_t F).length), .ref ra, .long pz, .int kc, .ref rc, .ref rl, .ref rb, .int la5, .int ca5])), (ra, .inl (cB, 16400, .inl g5)), (rr, .inl (cB, 4096, .inl fr))]) hD hS hA [1, 2, 0] rfl
  refine zz_callv (va_runV (As := []) (rest := []) ⟨hx, hb, hml, hown, hg⟩ (c_Mo_giveParts l dC dI mo rt rk rv rw ro rr ra rc rl rb 0 (nI F.length) mn (nI ([] : List Nat).length) (nI ([] ++ qu_t F).length) pz kc la5 ca5 cB g5 ([] ++ qu_t F) fr ([] : List Nat) hLQ (by have := qu_tl (L := F) (fun t ht => (hLt t ht).1); rw [List.nil_append]; omega) (by_nil _) (by decide) H.size) (cwV 0 hg (gi_V kw_940 kw_942 sw_28 kw_9 kw_943) rfl rfl rfl (by decide +kernel) ⟨Nat.le_of_ble_eq_true rfl, Nat.le_of_ble_eq_true rfl⟩) (zz_preV hPc hKc hDc _ (q0 := 0) (ci := 8) rfl rfl) rfl rfl hl.1 rfl (lv_room (Nat.le_of_ble_eq_true rfl)) d_Mo_quote_29 ⟨Nat.le_of_ble_eq_true rfl, Nat.le_of_ble_eq_true rfl⟩) hS hFc (fun u H1 k9 p9 d9 => va_join (wr := [(rt, .inl (cB, 4096, .inl ft))]) hP hD [1, 2, 0] [3] rfl rfl (by decide) (by decide) k9 hFc p9 d9) (fun u H locs hw hP hD hK1 hS => ?_)
  obtain ⟨u_2, rfl⟩ : ∃ z, z = u := ⟨_, rfl⟩
  try dsimp only at hw
  have hP : va_P (dC, dI) vwCl [(rt, .inl (cB, 4096, .inl ft)), (mo, .inr (8, [.int 0, .int (nI F.length), .ref rt, .int mn, .ref rk, .ref rv, .ref rw, .ref ro, .int (nI (by_ap 4096 ([] : List Nat) ([] ++ qu_t F)).length), .ref rr, .int (nI ([] ++ qu_t F).length), .ref ra, .long pz, .int kc, .ref rc, .ref rl, .ref rb, .int la5, .int ca5])), (ra, .inl (cB, 16400, .inl g5)), (rr, .inl (cB, 4096, .inl u_2))] H := hP
  have hD : va_D A [(rt, .inl (cB, 4096, .inl ft)), (mo, .inr (8, [.int 0, .int (nI F.length), .ref rt, .int mn, .ref rk, .ref rv, .ref rw, .ref ro, .int (nI (by_ap 4096 ([] : List Nat) ([] ++ qu_t F)).length), .ref rr, .int (nI ([] ++ qu_t F).length), .ref ra, .long pz, .int kc, .ref rc, .ref rl, .ref rb, .int la5, .int ca5])), (ra, .inl (cB, 16400, .inl g5)), (rr, .inl (cB, 4096, .inl u_2))] := hD
  have hLg := hw
  refine lv_aload_n hx hb d_Mo_quote_32 rfl (lv_at hl 0 rfl) ?_
  refine lv_iconst (v := 0) hx hb d_Mo_quote_33 (by decide) ?_
  refine va_put (D := (dC, dI)) (ci := 8) (v := .int 0) (ty := .int) (C := "TextForgeModel") (T := TX8) (N := 19) hx hb hg iwX8 tyX8 tyX8_ok nmX8 hown hK hP hD hS 1 rfl rfl 1 (by decide) (hg _ kw_727) (fun _ h9 => h9) rfl (by decide +kernel) rfl rfl (Nat.le_of_ble_eq_true rfl) d_Mo_quote_34 (fun H locs hP hD hS => ?_)
  have hP : va_P (dC, dI) vwCl [(rt, .inl (cB, 4096, .inl ft)), (mo, .inr (8, [.int 0, .int 0, .ref rt, .int mn, .ref rk, .ref rv, .ref rw, .ref ro, .int (nI (by_ap 4096 ([] : List Nat) ([] ++ qu_t F)).length), .ref rr, .int (nI ([] ++ qu_t F).length), .ref ra, .long pz, .int kc, .ref rc, .ref rl, .ref rb, .int la5, .int ca5])), (ra, .inl (cB, 16400, .inl g5)), (rr, .inl (cB, 4096, .inl u_2))] H := hP
  have hD : va_D A [(rt, .inl (cB, 4096, .inl ft)), (mo, .inr (8, [.int 0, .int 0, .ref rt, .int mn, .ref rk, .ref rv, .ref rw, .ref ro, .int (nI (by_ap 4096 ([] : List Nat) ([] ++ qu_t F)).length), .ref rr, .int (nI ([] ++ qu_t F).length), .ref ra, .long pz, .int kc, .ref rc, .ref rl, .ref rb, .int la5, .int ca5])), (ra, .inl (cB, 16400, .inl g5)), (rr, .inl (cB, 4096, .inl u_2))] := hD
  refine lv_aload_n hx hb d_Mo_quote_37 rfl (lv_at hl 0 rfl) ?_
  refine va_get (D := (dC, dI)) (ci := 8) (v := .int (nI (by_ap 4096 ([] : List Nat) ([] ++ qu_t F)).length)) (C := "TextForgeModel") (T := TX8) (N := 19) hx hb hg iwX8 hown hK hP 1 rfl rfl 8 (by decide) (hg _ kw_734) (fun _ h9 => h9) rfl d_Mo_quote_38 ?_
  have hP9 := hP.sub (ws' := [(mo, .inr (8, [.int 0, .int 0, .ref rt, .int mn, .ref rk, .ref rv, .ref rw, .ref ro, .int (nI (by_ap 4096 ([] : List Nat) ([] ++ qu_t F)).length), .ref rr, .int (nI ([] ++ qu_t F).length), .ref ra, .long pz, .int kc, .ref rc, .ref rl, .ref rb, .int la5, .int ca5])), (rt, .inl (cB, 4096, .inl ft)), (ra, .inl (cB, 16400, .inl g5)), (rr, .inl (cB, 4096, .inl u_2))]) [1, 0, 2, 3] rfl
  have hD9 := hD.sub (ws' := [(mo, .inr (8, [.int 0, .int 0, .ref rt, .int mn, .ref rk, .ref rv, .ref rw, .ref ro, .int (nI (by_ap 4096 ([] : List Nat) ([] ++ qu_t F)).length), .ref rr, .int (nI ([] ++ qu_t F).length), .ref ra, .long pz, .int kc, .ref rc, .ref rl, .ref rb, .int la5, .int ca5])), (rt, .inl (cB, 4096, .inl ft)), (ra, .inl (cB, 16400, .inl g5)), (rr, .inl (cB, 4096, .inl u_2))]) [1, 0, 2, 3] (by decide) rfl
  have hK9 := hK.sub (tys' := [(cB, .byte)]) [0] rfl
  exact zz_iret hx hb hr hlocks d_Mo_quote_41 hS (by first | exact Nat.le_refl _ | decide | omega | (dsimp only; omega)) (by first | exact Nat.le_refl _ | decide | omega | (dsimp only; omega)) (g5, u_2, la5, ca5) ⟨rfl, hLg⟩ hP9 hK9 hD9
abbrev y_Mo_decode : MethodName := ⟨"TextForgeModel", "decode", "()I"⟩
abbrev w_Mo_decode : List Cond := Cond.code y_Mo_decode prog_12_method_24_code 2 (some .int) :: gw
theorem d_Mo_decode_0 : decode prog_12_method_24_code 0 = .ok (.aload_n 0, 1) := by decide +kernel
theorem d_Mo_decode_1 : decode prog_12_method_24_code 1 = .ok (.iconst 0, 1) := by decide +kernel
theorem d_Mo_decode_2 : decode prog_12_method_24_code 2 = .ok (.putfield 43, 3) := by decide +kernel
theorem d_Mo_decode_5 : decode prog_12_method_24_code 5 = .ok (.aload_n 0, 1) := by decide +kernel
theorem d_Mo_decode_6 : decode prog_12_method_24_code 6 = .ok (.iconst 0, 1) := by decide +kernel
theorem d_Mo_decode_7 : decode prog_12_method_24_code 7 = .ok (.putfield 126, 3) := by decide +kernel
theorem d_Mo_decode_10 : decode prog_12_method_24_code 10 = .ok (.iconst 0, 1) := by decide +kernel
theorem d_Mo_decode_11 : decode prog_12_method_24_code 11 = .ok (.istore_n 1, 1) := by decide +kernel
theorem d_Mo_decode_12 : decode prog_12_method_24_code 12 = .ok (.iload_n 1, 1) := by decide +kernel
theorem d_Mo_decode_13 : decode prog_12_method_24_code 13 = .ok (.aload_n 0, 1) := by decide +kernel
theorem d_Mo_decode_14 : decode prog_12_method_24_code 14 = .ok (.getfield 47, 3) := by decide +kernel
theorem d_Mo_decode_17 : decode prog_12_method_24_code 17 = .ok (.if_icmp .ge 90, 3) := by decide +kernel
theorem d_Mo_decode_20 : decode prog_12_method_24_code 20 = .ok (.aload_n 0, 1) := by decide +kernel
theorem d_Mo_decode_21 : decode prog_12_method_24_code 21 = .ok (.aload_n 0, 1) := by decide +kernel
theorem d_Mo_decode_22 : decode prog_12_method_24_code 22 = .ok (.getfield 7, 3) := by decide +kernel
theorem d_Mo_decode_25 : decode prog_12_method_24_code 25 = .ok (.iload_n 1, 1) := by decide +kernel
theorem d_Mo_decode_26 : decode prog_12_method_24_code 26 = .ok (.aload_n 0, 1) := by decide +kernel
theorem d_Mo_decode_27 : decode prog_12_method_24_code 27 = .ok (.getfield 47, 3) := by decide +kernel
theorem d_Mo_decode_30 : decode prog_12_method_24_code 30 = .ok (.iload_n 1, 1) := by decide +kernel
theorem d_Mo_decode_31 : decode prog_12_method_24_code 31 = .ok (.isub, 1) := by decide +kernel
theorem d_Mo_decode_32 : decode prog_12_method_24_code 32 = .ok (.invokevirtual 118, 3) := by decide +kernel
theorem d_Mo_decode_35 : decode prog_12_method_24_code 35 = .ok (.aload_n 0, 1) := by decide +kernel
theorem d_Mo_decode_36 : decode prog_12_method_24_code 36 = .ok (.getfield 34, 3) := by decide +kernel
theorem d_Mo_decode_39 : decode prog_12_method_24_code 39 = .ok (.aload_n 0, 1) := by decide +kernel
theorem d_Mo_decode_40 : decode prog_12_method_24_code 40 = .ok (.getfield 126, 3) := by decide +kernel
theorem d_Mo_decode_43 : decode prog_12_method_24_code 43 = .ok (.aload_n 0, 1) := by decide +kernel
theorem d_Mo_decode_44 : decode prog_12_method_24_code 44 = .ok (.getfield 111, 3) := by decide +kernel
theorem d_Mo_decode_47 : decode prog_12_method_24_code 47 = .ok (.iastore, 1) := by decide +kernel
theorem d_Mo_decode_48 : decode prog_12_method_24_code 48 = .ok (.aload_n 0, 1) := by decide +kernel
theorem d_Mo_decode_49 : decode prog_12_method_24_code 49 = .ok (.getfield 37, 3) := by decide +kernel
theorem d_Mo_decode_52 : decode prog_12_method_24_code 52 = .ok (.aload_n 0, 1) := by decide +kernel
theorem d_Mo_decode_53 : decode prog_12_method_24_code 53 = .ok (.getfield 126, 3) := by decide +kernel
theorem d_Mo_decode_56 : decode prog_12_method_24_code 56 = .ok (.iload_n 1, 1) := by decide +kernel
theorem d_Mo_decode_57 : decode prog_12_method_24_code 57 = .ok (.iastore, 1) := by decide +kernel
theorem d_Mo_decode_58 : decode prog_12_method_24_code 58 = .ok (.aload_n 0, 1) := by decide +kernel
theorem d_Mo_decode_59 : decode prog_12_method_24_code 59 = .ok (.getfield 40, 3) := by decide +kernel
theorem d_Mo_decode_62 : decode prog_12_method_24_code 62 = .ok (.aload_n 0, 1) := by decide +kernel
theorem d_Mo_decode_63 : decode prog_12_method_24_code 63 = .ok (.getfield 126, 3) := by decide +kernel
theorem d_Mo_decode_66 : decode prog_12_method_24_code 66 = .ok (.aload_n 0, 1) := by decide +kernel
theorem d_Mo_decode_67 : decode prog_12_method_24_code 67 = .ok (.getfield 107, 3) := by decide +kernel
theorem d_Mo_decode_70 : decode prog_12_method_24_code 70 = .ok (.ifCond .ne 7, 3) := by decide +kernel
theorem d_Mo_decode_73 : decode prog_12_method_24_code 73 = .ok (.iconst 1, 1) := by decide +kernel
theorem d_Mo_decode_74 : decode prog_12_method_24_code 74 = .ok (.goto 7, 3) := by decide +kernel
theorem d_Mo_decode_77 : decode prog_12_method_24_code 77 = .ok (.aload_n 0, 1) := by decide +kernel
theorem d_Mo_decode_78 : decode prog_12_method_24_code 78 = .ok (.getfield 107, 3) := by decide +kernel
theorem d_Mo_decode_81 : decode prog_12_method_24_code 81 = .ok (.iastore, 1) := by decide +kernel
theorem d_Mo_decode_82 : decode prog_12_method_24_code 82 = .ok (.iload_n 1, 1) := by decide +kernel
theorem d_Mo_decode_83 : decode prog_12_method_24_code 83 = .ok (.aload_n 0, 1) := by decide +kernel
theorem d_Mo_decode_84 : decode prog_12_method_24_code 84 = .ok (.getfield 40, 3) := by decide +kernel
theorem d_Mo_decode_87 : decode prog_12_method_24_code 87 = .ok (.aload_n 0, 1) := by decide +kernel
theorem d_Mo_decode_88 : decode prog_12_method_24_code 88 = .ok (.getfield 126, 3) := by decide +kernel
theorem d_Mo_decode_91 : decode prog_12_method_24_code 91 = .ok (.iaload, 1) := by decide +kernel
theorem d_Mo_decode_92 : decode prog_12_method_24_code 92 = .ok (.iadd, 1) := by decide +kernel
theorem d_Mo_decode_93 : decode prog_12_method_24_code 93 = .ok (.istore_n 1, 1) := by decide +kernel
theorem d_Mo_decode_94 : decode prog_12_method_24_code 94 = .ok (.aload_n 0, 1) := by decide +kernel
theorem d_Mo_decode_95 : decode prog_12_method_24_code 95 = .ok (.dup, 1) := by decide +kernel
theorem d_Mo_decode_96 : decode prog_12_method_24_code 96 = .ok (.getfield 126, 3) := by decide +kernel
theorem d_Mo_decode_99 : decode prog_12_method_24_code 99 = .ok (.iconst 1, 1) := by decide +kernel
theorem d_Mo_decode_100 : decode prog_12_method_24_code 100 = .ok (.iadd, 1) := by decide +kernel
theorem d_Mo_decode_101 : decode prog_12_method_24_code 101 = .ok (.putfield 126, 3) := by decide +kernel
theorem d_Mo_decode_104 : decode prog_12_method_24_code 104 = .ok (.goto (-92), 3) := by decide +kernel
theorem d_Mo_decode_107 : decode prog_12_method_24_code 107 = .ok (.aload_n 0, 1) := by decide +kernel
theorem d_Mo_decode_108 : decode prog_12_method_24_code 108 = .ok (.iconst 0, 1) := by decide +kernel
theorem d_Mo_decode_109 : decode prog_12_method_24_code 109 = .ok (.putfield 47, 3) := by decide +kernel
theorem d_Mo_decode_112 : decode prog_12_method_24_code 112 = .ok (.aload_n 0, 1) := by decide +kernel
theorem d_Mo_decode_113 : decode prog_12_method_24_code 113 = .ok (.getfield 126, 3) := by decide +kernel
theorem d_Mo_decode_116 : decode prog_12_method_24_code 116 = .ok (.ireturn, 1) := by decide +kernel
set_option maxHeartbeats 4000000 in
set_option maxRecDepth 100000 in
theorem c_Mo_decode (l : Launch) (dC : Nat → ClassId) (dI : Nat → Nat → Nat) (mo rt rk rv rw ro rr ra rc rl rb : Nat) (th fd mn md pt : Int32) (pz : Int64) (kc la ca : Int32) (cB : ClassId) (ft : Nat → Int32) (F : List Nat) (cI : ClassId) (fc fl fb : Nat → Int32) (hLt : by_L F ft) (hct : F.length ≤ 4096) : zM_i (S := (Nat → Int32) × (Nat → Int32) × (Nat → Int32) × Int32 × Int32) l y_Mo_decode w_Mo_decode { frames := 2, cells := 0, slots := 0, locals := 49 } (dC, dI) vwCl [.ref mo] [(mo, .inr (8, [.int th, .int (nI F.length), .ref rt, .int mn, .ref rk, .ref rv, .ref rw, .ref ro, .int md, .ref rr, .int pt, .ref ra, .long pz, .int kc, .ref rc, .ref rl, .ref rb, .int la, .int ca])), (rt, .inl (cB, 4096, .inl ft)), (rc, .inl (cI, 4096, .inl fc)), (rl, .inl (cI, 4096, .inl fl)), (rb, .inl (cI, 4096, .inl fb))] [(cB, .byte), (cI, .int)] (fun (r : Int32) (u : (Nat → Int32) × (Nat → Int32) × (Nat → Int32) × Int32 × Int32) => match u with | (g1, g2, g3, la1, ca1) => r = nI (cd_l F).length ∧ cd_A (cd_l F) g1 g2 ∧ cd_B F (cd_l F) g3 ∧ (cd_l F).length ≤ 4096) (fun u => match u with | (g1, g2, g3, la1, ca1) => [(mo, .inr (8, [.int 0, .int 0, .ref rt, .int mn, .ref rk, .ref rv, .ref rw, .ref ro, .int md, .ref rr, .int pt, .ref ra, .long pz, .int (nI (cd_l F).length), .ref rc, .ref rl, .ref rb, .int la1, .int ca1])), (rt, .inl (cB, 4096, .inl ft)), (rc, .inl (cI, 4096, .inl g1)), (rl, .inl (cI, 4096, .inl g2)), (rb, .inl (cI, 4096, .inl g3))]) (fun u => match u with | (g1, g2, g3, la1, ca1) => [(cB, .byte), (cI, .int)]) 0 0 := by
  refine zz_enteri (cc := prog_12_method_24_code) (nL := 2) (ret := (some .int)) (by decide) rfl (Nat.le_of_ble_eq_true rfl) ?_
  intro p e s m below meth c A ls C0 hA hS hP hK hD hl
  obtain ⟨hx, hb, hml, hown, hg, hr, hlocks, hin⟩ := C0
  have hown : s.vm.findClass "TextForgeModel" = some m.cls := hown
  have hP : va_P (dC, dI) vwCl [(mo, .inr (8, [.int th, .int (nI F.length), .ref rt, .int mn, .ref rk, .ref rv, .ref rw, .ref ro, .int md, .ref rr, .int pt, .ref ra, .long pz, .int kc, .ref rc, .ref rl, .ref rb, .int la, .int ca])), (rt, .inl (cB, 4096, .inl ft)), (rc, .inl (cI, 4096, .inl fc)), (rl, .inl (cI, 4096, .inl fl)), (rb, .inl (cI, 4096, .inl fb))] s.heap := hP
  have hK : va_K (dC, dI) vwCl [(cB, .byte), (cI, .int)] s := hK
  have hD : va_D A [(mo, .inr (8, [.int th, .int (nI F.length), .ref rt, .int mn, .ref rk, .ref rv, .ref rw, .ref ro, .int md, .ref rr, .int pt, .ref ra, .long pz, .int kc, .ref rc, .ref rl, .ref rb, .int la, .int ca])), (rt, .inl (cB, 4096, .inl ft)), (rc, .inl (cI, 4096, .inl fc)), (rl, .inl (cI, 4096, .inl fl)), (rb, .inl (cI, 4096, .inl fb))] := hD
  have hl : lv_has ls 2 [(0, .ref mo)] := hl
  refine lv_aload_n hx hb d_Mo_decode_0 rfl (lv_at hl 0 rfl) ?_
  refine lv_iconst (v := 0) hx hb d_Mo_decode_1 (by decide) ?_
  refine va_put (D := (dC, dI)) (ci := 8) (v := .int 0) (ty := .int) (C := "TextForgeModel") (T := TX8) (N := 19) hx hb hg iwX8 tyX8 tyX8_ok nmX8 hown hK hP hD hS 0 rfl rfl 0 (by decide) (hg _ kw_726) (fun _ h9 => h9) rfl (by decide +kernel) rfl rfl (Nat.le_of_ble_eq_true rfl) d_Mo_decode_2 (fun H locs hP hD hS => ?_)
  have hP : va_P (dC, dI) vwCl [(mo, .inr (8, [.int 0, .int (nI F.length), .ref rt, .int mn, .ref rk, .ref rv, .ref rw, .ref ro, .int md, .ref rr, .int pt, .ref ra, .long pz, .int kc, .ref rc, .ref rl, .ref rb, .int la, .int ca])), (rt, .inl (cB, 4096, .inl ft)), (rc, .inl (cI, 4096, .inl fc)), (rl, .inl (cI, 4096, .inl fl)), (rb, .inl (cI, 4096, .inl fb))] H := hP
  have hD : va_D A [(mo, .inr (8, [.int 0, .int (nI F.length), .ref rt, .int mn, .ref rk, .ref rv, .ref rw, .ref ro, .int md, .ref rr, .int pt, .ref ra, .long pz, .int kc, .ref rc, .ref rl, .ref rb, .int la, .int ca])), (rt, .inl (cB, 4096, .inl ft)), (rc, .inl (cI, 4096, .inl fc)), (rl, .inl (cI, 4096, .inl fl)), (rb, .inl (cI, 4096, .inl fb))] := hD
  refine lv_aload_n hx hb d_Mo_decode_5 rfl (lv_at hl 0 rfl) ?_
  refine lv_iconst (v := 0) hx hb d_Mo_decode_6 (by decide) ?_
  refine va_put (D := (dC, dI)) (ci := 8) (v := .int 0) (ty := .int) (C := "TextForgeModel") (T := TX8) (N := 19) hx hb hg iwX8 tyX8 tyX8_ok nmX8 hown hK hP hD hS 0 rfl rfl 13 (by decide) (hg _ kw_739) (fun _ h9 => h9) rfl (by decide +kernel) rfl rfl (Nat.le_of_ble_eq_true rfl) d_Mo_decode_7 (fun H locs hP hD hS => ?_)
  have hP : va_P (dC, dI) vwCl [(mo, .inr (8, [.int 0, .int (nI F.length), .ref rt, .int mn, .ref rk, .ref rv, .ref rw, .ref ro, .int md, .ref rr, .int pt, .ref ra, .long pz, .int 0, .ref rc, .ref rl, .ref rb, .int la, .int ca])), (rt, .inl (cB, 4096, .inl ft)), (rc, .inl (cI, 4096, .inl fc)), (rl, .inl (cI, 4096, .inl fl)), (rb, .inl (cI, 4096, .inl fb))] H := hP
  have hD : va_D A [(mo, .inr (8, [.int 0, .int (nI F.length), .ref rt, .int mn, .ref rk, .ref rv, .ref rw, .ref ro, .int md, .ref rr, .int pt, .ref ra, .long pz, .int 0, .ref rc, .ref rl, .ref rb, .int la, .int ca])), (rt, .inl (cB, 4096, .inl ft)), (rc, .inl (cI, 4096, .inl fc)), (rl, .inl (cI, 4096, .inl fl)), (rb, .inl (cI, 4096, .inl fb))] := hD
  refine lv_iconst (v := 0) hx hb d_Mo_decode_10 (by decide) ?_
  refine lv_istore_n (lv' := [(1, .int 0), (0, .ref mo)]) hx hb d_Mo_decode_11 rfl hl (by decide) rfl (fun ls hl => ?_)
  refine zz_loop (fun (x : Nat × List (Nat × Nat) × (Nat → Int32) × (Nat → Int32) × (Nat → Int32) × Int32 × Int32) H locs ls => match x with | (p1, K, g1, g2, g3, la2, ca2) => va_P (dC, dI) vwCl [(mo, .inr (8, [.int 0, .int (nI F.length), .ref rt, .int mn, .ref rk, .ref rv, .ref rw, .ref ro, .int md, .ref rr, .int pt, .ref ra, .long pz, .int (nI K.length), .ref rc, .ref rl, .ref rb, .int la2, .int ca2])), (rt, .inl (cB, 4096, .inl ft)), (rc, .inl (cI, 4096, .inl g1)), (rl, .inl (cI, 4096, .inl g2)), (rb, .inl (cI, 4096, .inl g3))] H ∧ va_D A [(mo, .inr (8, [.int 0, .int (nI F.length), .ref rt, .int mn, .ref rk, .ref rv, .ref rw, .ref ro, .int md, .ref rr, .int pt, .ref ra, .long pz, .int (nI K.length), .ref rc, .ref rl, .ref rb, .int la2, .int ca2])), (rt, .inl (cB, 4096, .inl ft)), (rc, .inl (cI, 4096, .inl g1)), (rl, .inl (cI, 4096, .inl g2)), (rb, .inl (cI, 4096, .inl g3))] ∧ va_S A s.heap H locs ∧ lv_has ls 2 [(0, .ref mo), (1, .int (nI p1))] ∧ cd_A K g1 g2 ∧ cd_B F K g3 ∧ cd_I F K p1 ∧ p1 ≤ F.length ∧ K.length ≤ p1) (fun x => match x with | (p1, K, g1, g2, g3, la2, ca2) => F.length - p1) ?_ (0, [], fc, fl, fb, la, ca) ⟨hP.sub [0, 1, 2, 3, 4] rfl, hD.sub [0, 1, 2, 3, 4] (by decide) rfl, hS, lv_sub hl [1, 0] rfl, (cd_A0 _ _), (cd_B0 _ _), (cd_I0 _), (Nat.zero_le _), (Nat.zero_le _)⟩
  intro x H locs ls hI ih_12
  obtain ⟨p1, K, g1, g2, g3, la2, ca2⟩ := x
  try dsimp only at hI
  obtain ⟨hP, hD, hS, hl, hA9, hB9, hE, hp1, hKl⟩ := hI
  refine lv_iload_n hx hb d_Mo_decode_12 rfl (lv_at hl 1 rfl) ?_
  refine lv_aload_n hx hb d_Mo_decode_13 rfl (lv_at hl 0 rfl) ?_
  refine va_get (D := (dC, dI)) (ci := 8) (v := .int (nI F.length)) (C := "TextForgeModel") (T := TX8) (N := 19) hx hb hg iwX8 hown hK hP 0 rfl rfl 1 (by decide) (hg _ kw_727) (fun _ h9 => h9) rfl d_Mo_decode_14 ?_
  refine lv_icmp_ge (tgt := 107) hx hb d_Mo_decode_17 (by decide) (fun c_17 => ?_) (fun c_17 => ?_)
  · skip
    have f_17 : F.length ≤ p1 := Nat.le_of_not_lt (fun z => nI_ge (b := F.length) z (by omega) c_17)
    have ep : p1 = F.length := by omega
    have eK := cd_all hE ep
    refine lv_aload_n hx hb d_Mo_decode_107 rfl (lv_at hl 0 rfl) ?_
    refine lv_iconst (v := 0) hx hb d_Mo_decode_108 (by decide) ?_
    refine va_put (D := (dC, dI)) (ci := 8) (v := .int 0) (ty := .int) (C := "TextForgeModel") (T := TX8) (N := 19) hx hb hg iwX8 tyX8 tyX8_ok nmX8 hown hK hP hD hS 0 rfl rfl 1 (by decide) (hg _ kw_727) (fun _ h9 => h9) rfl (by decide +kernel) rfl rfl (Nat.le_of_ble_eq_true rfl) d_Mo_decode_109 (fun H locs hP hD hS => ?_)
    have hP : va_P (dC, dI) vwCl [(mo, .inr (8, [.int 0, .int 0, .ref rt, .int mn, .ref rk, .ref rv, .ref rw, .ref ro, .int md, .ref rr, .int pt, .ref ra, .long pz, .int (nI K.length), .ref rc, .ref rl, .ref rb, .int la2, .int ca2])), (rt, .inl (cB, 4096, .inl ft)), (rc, .inl (cI, 4096, .inl g1)), (rl, .inl (cI, 4096, .inl g2)), (rb, .inl (cI, 4096, .inl g3))] H := hP
    have hD : va_D A [(mo, .inr (8, [.int 0, .int 0, .ref rt, .int mn, .ref rk, .ref rv, .ref rw, .ref ro, .int md, .ref rr, .int pt, .ref ra, .long pz, .int (nI K.length), .ref rc, .ref rl, .ref rb, .int la2, .int ca2])), (rt, .inl (cB, 4096, .inl ft)), (rc, .inl (cI, 4096, .inl g1)), (rl, .inl (cI, 4096, .inl g2)), (rb, .inl (cI, 4096, .inl g3))] := hD
    refine lv_aload_n hx hb d_Mo_decode_112 rfl (lv_at hl 0 rfl) ?_
    refine va_get (D := (dC, dI)) (ci := 8) (v := .int (nI K.length)) (C := "TextForgeModel") (T := TX8) (N := 19) hx hb hg iwX8 hown hK hP 0 rfl rfl 13 (by decide) (hg _ kw_739) (fun _ h9 => h9) rfl d_Mo_decode_113 ?_
    have hP9 := hP.sub (ws' := [(mo, .inr (8, [.int 0, .int 0, .ref rt, .int mn, .ref rk, .ref rv, .ref rw, .ref ro, .int md, .ref rr, .int pt, .ref ra, .long pz, .int (nI K.length), .ref rc, .ref rl, .ref rb, .int la2, .int ca2])), (rt, .inl (cB, 4096, .inl ft)), (rc, .inl (cI, 4096, .inl g1)), (rl, .inl (cI, 4096, .inl g2)), (rb, .inl (cI, 4096, .inl g3))]) [0, 1, 2, 3, 4] rfl
    have hD9 := hD.sub (ws' := [(mo, .inr (8, [.int 0, .int 0, .ref rt, .int mn, .ref rk, .ref rv, .ref rw, .ref ro, .int md, .ref rr, .int pt, .ref ra, .long pz, .int (nI K.length), .ref rc, .ref rl, .ref rb, .int la2, .int ca2])), (rt, .inl (cB, 4096, .inl ft)), (rc, .inl (cI, 4096, .inl g1)), (rl, .inl (cI, 4096, .inl g2)), (rb, .inl (cI, 4096, .inl g3))]) [0, 1, 2, 3, 4] (by decide) rfl
    have hK9 := hK.sub (tys' := [(cB, .byte), (cI, .int)]) [0, 1] rfl
    rw [show nI K.length = nI (cd_l F).length by rw [eK]] at hP9 hD9
    exact zz_iret hx hb hr hlocks d_Mo_decode_116 hS (by first | exact Nat.le_refl _ | decide | omega | (dsimp only; omega)) (by first | exact Nat.le_refl _ | decide | omega | (dsimp only; omega)) (g1, g2, g3, la2, ca2) ⟨by rw [eK], by rw [eK]; exact hA9, by rw [eK]; exact hB9, by rw [eK]; omega⟩ hP9 hK9 hD9
  · skip
    have f_17 : p1 < F.length := Nat.lt_of_not_le (fun z => c_17 (nI_le (a := F.length) z (by omega)))
    have hpl : p1 < F.length := f_17
    refine lv_aload_n hx hb d_Mo_decode_20 rfl (lv_at hl 0 rfl) ?_
    refine lv_aload_n hx hb d_Mo_decode_21 rfl (lv_at hl 0 rfl) ?_
    refine va_get (D := (dC, dI)) (ci := 8) (v := .ref rt) (C := "TextForgeModel") (T := TX8) (N := 19) hx hb hg iwX8 hown hK hP 0 rfl rfl 2 (by decide) (hg _ kw_728) (fun _ h9 => h9) rfl d_Mo_decode_22 ?_
    refine lv_iload_n hx hb d_Mo_decode_25 rfl (lv_at hl 1 rfl) ?_
    refine lv_topi (fun y_1 ey_1 => ?_)
    have ey_1 : y_1 = (nI (0 + p1) : Int32) := ey_1.trans (show (nI p1) = nI (0 + p1) from (by rw [Nat.zero_add]))
    subst ey_1
    refine lv_aload_n hx hb d_Mo_decode_26 rfl (lv_at hl 0 rfl) ?_
    refine va_get (D := (dC, dI)) (ci := 8) (v := .int (nI F.length)) (C := "TextForgeModel") (T := TX8) (N := 19) hx hb hg iwX8 hown hK hP 0 rfl rfl 1 (by decide) (hg _ kw_727) (fun _ h9 => h9) rfl d_Mo_decode_27 ?_
    refine lv_iload_n hx hb d_Mo_decode_30 rfl (lv_at hl 1 rfl) ?_
    refine lv_isub hx hb d_Mo_decode_31 ?_
    refine lv_topi (fun y_2 ey_2 => ?_)
    have ey_2 : y_2 = (nI (F.length - p1) : Int32) := ey_2.trans (show ((nI F.length) - (nI p1)) = nI (F.length - p1) from (pk_sub hp1))
    subst ey_2
    have hPc := hP.sub (ws' := [(mo, .inr (8, [.int 0, .int (nI F.length), .ref rt, .int mn, .ref rk, .ref rv, .ref rw, .ref ro, .int md, .ref rr, .int pt, .ref ra, .long pz, .int (nI K.length), .ref rc, .ref rl, .ref rb, .int la2, .int ca2])), (rt, .inl (cB, 4096, .inl ft))]) [0, 1] rfl
    have hKc := hK.sub (tys' := [(cB, .byte)]) [0] rfl
    have hDc := hD.sub (ws' := [(mo, .inr (8, [.int 0, .int (nI F.length), .ref rt, .int mn, .ref rk, .ref rv, .ref rw, .ref ro, .int md, .ref rr, .int pt, .ref ra, .long pz, .int (nI K.length), .ref rc, .ref rl, .ref rb, .int la2, .int ca2])), (rt, .inl (cB, 4096, .inl ft))]) [0, 1] (by decide) rfl
    have hFc := va_free (wc := [(mo, .inr (8, [.int 0, .int (nI F.length), .ref rt, .int mn, .ref rk, .ref rv, .ref rw, .ref ro, .int md, .ref rr, .int pt, .ref ra, .long pz, .int (nI K.length), .ref rc, .ref rl, .ref rb, .int la2, .int ca2])), (rt, .inl (cB, 4096, .inl ft))]) hD hS hA [0, 1] rfl
    refine zz_callv (va_runV (As := [.ref rt, .int (nI (0 + p1)), .int (nI (F.length - p1))]) (rest := []) ⟨hx, hb, hml, hown, hg⟩ (c_Mo_look l dC dI mo rt rk rv rw ro rr ra rc rl rb 0 (nI F.length) mn md pt pz (nI K.length) la2 ca2 rt 4096 cB ft F 0 p1 (fun t ht => ⟨(hLt t ht).1, by rw [Nat.zero_add]; exact (hLt t ht).2⟩) (by omega) (by decide) hpl H.size) (cwV 3 hg (gi_V kw_829 kw_831 sw_12 kw_9 kw_832) rfl rfl rfl (by decide +kernel) ⟨Nat.le_of_ble_eq_true rfl, Nat.le_of_ble_eq_true rfl⟩) (zz_preV hPc hKc hDc _ (q0 := 0) (ci := 8) rfl rfl) rfl rfl hl.1 rfl (lv_room (Nat.le_of_ble_eq_true rfl)) d_Mo_decode_32 ⟨Nat.le_of_ble_eq_true rfl, Nat.le_of_ble_eq_true rfl⟩) hS hFc (fun u H1 k9 p9 d9 => va_join (wr := [(rc, .inl (cI, 4096, .inl g1)), (rl, .inl (cI, 4096, .inl g2)), (rb, .inl (cI, 4096, .inl g3))]) hP hD [0, 1] [2, 3, 4] rfl rfl (by decide) (by decide) k9 hFc p9 d9) (fun u H locs hw hP hD hK1 hS => ?_)
    obtain ⟨u_3, rfl⟩ : ∃ z, z = u := ⟨_, rfl⟩
    try dsimp only at hw
    have hP : va_P (dC, dI) vwCl [(rc, .inl (cI, 4096, .inl g1)), (rl, .inl (cI, 4096, .inl g2)), (rb, .inl (cI, 4096, .inl g3)), (mo, .inr (8, [.int 0, .int (nI F.length), .ref rt, .int mn, .ref rk, .ref rv, .ref rw, .ref ro, .int md, .ref rr, .int pt, .ref ra, .long pz, .int (nI K.length), .ref rc, .ref rl, .ref rb, .int (nI (lk_n (ut_at F p1))), .int (nI (cd_v (ut_at F p1)))])), (rt, .inl (cB, 4096, .inl ft))] H := hP
    have hD : va_D A [(rc, .inl (cI, 4096, .inl g1)), (rl, .inl (cI, 4096, .inl g2)), (rb, .inl (cI, 4096, .inl g3)), (mo, .inr (8, [.int 0, .int (nI F.length), .ref rt, .int mn, .ref rk, .ref rv, .ref rw, .ref ro, .int md, .ref rr, .int pt, .ref ra, .long pz, .int (nI K.length), .ref rc, .ref rl, .ref rb, .int (nI (lk_n (ut_at F p1))), .int (nI (cd_v (ut_at F p1)))])), (rt, .inl (cB, 4096, .inl ft))] := hD
    refine lv_aload_n hx hb d_Mo_decode_35 rfl (lv_at hl 0 rfl) ?_
    refine va_get (D := (dC, dI)) (ci := 8) (v := .ref rc) (C := "TextForgeModel") (T := TX8) (N := 19) hx hb hg iwX8 hown hK hP 3 rfl rfl 14 (by decide) (hg _ kw_740) (fun _ h9 => h9) rfl d_Mo_decode_36 ?_
    refine lv_aload_n hx hb d_Mo_decode_39 rfl (lv_at hl 0 rfl) ?_
    refine va_get (D := (dC, dI)) (ci := 8) (v := .int (nI K.length)) (C := "TextForgeModel") (T := TX8) (N := 19) hx hb hg iwX8 hown hK hP 3 rfl rfl 13 (by decide) (hg _ kw_739) (fun _ h9 => h9) rfl d_Mo_decode_40 ?_
    refine lv_aload_n hx hb d_Mo_decode_43 rfl (lv_at hl 0 rfl) ?_
    refine va_get (D := (dC, dI)) (ci := 8) (v := .int (nI (cd_v (ut_at F p1)))) (C := "TextForgeModel") (T := TX8) (N := 19) hx hb hg iwX8 hown hK hP 3 rfl rfl 18 (by decide) (hg _ kw_744) (fun _ h9 => h9) rfl d_Mo_decode_44 ?_
    refine va_iast hx hb hK hP hD hS 0 1 rfl rfl (vp_in_nI (by omega) (by decide)) d_Mo_decode_47 (fun H locs hP hD hS => ?_)
    have hP : va_P (dC, dI) vwCl [(rc, .inl (cI, 4096, .inl (upd g1 (nI K.length).toNatClampNeg (nI (cd_v (ut_at F p1)))))), (rl, .inl (cI, 4096, .inl g2)), (rb, .inl (cI, 4096, .inl g3)), (mo, .inr (8, [.int 0, .int (nI F.length), .ref rt, .int mn, .ref rk, .ref rv, .ref rw, .ref ro, .int md, .ref rr, .int pt, .ref ra, .long pz, .int (nI K.length), .ref rc, .ref rl, .ref rb, .int (nI (lk_n (ut_at F p1))), .int (nI (cd_v (ut_at F p1)))])), (rt, .inl (cB, 4096, .inl ft))] H := hP
    have hD : va_D A [(rc, .inl (cI, 4096, .inl (upd g1 (nI K.length).toNatClampNeg (nI (cd_v (ut_at F p1)))))), (rl, .inl (cI, 4096, .inl g2)), (rb, .inl (cI, 4096, .inl g3)), (mo, .inr (8, [.int 0, .int (nI F.length), .ref rt, .int mn, .ref rk, .ref rv, .ref rw, .ref ro, .int md, .ref rr, .int pt, .ref ra, .long pz, .int (nI K.length), .ref rc, .ref rl, .ref rb, .int (nI (lk_n (ut_at F p1))), .int (nI (cd_v (ut_at F p1)))])), (rt, .inl (cB, 4096, .inl ft))] := hD
    refine lv_aload_n hx hb d_Mo_decode_48 rfl (lv_at hl 0 rfl) ?_
    refine va_get (D := (dC, dI)) (ci := 8) (v := .ref rl) (C := "TextForgeModel") (T := TX8) (N := 19) hx hb hg iwX8 hown hK hP 3 rfl rfl 15 (by decide) (hg _ kw_741) (fun _ h9 => h9) rfl d_Mo_decode_49 ?_
    refine lv_aload_n hx hb d_Mo_decode_52 rfl (lv_at hl 0 rfl) ?_
    refine va_get (D := (dC, dI)) (ci := 8) (v := .int (nI K.length)) (C := "TextForgeModel") (T := TX8) (N := 19) hx hb hg iwX8 hown hK hP 3 rfl rfl 13 (by decide) (hg _ kw_739) (fun _ h9 => h9) rfl d_Mo_decode_53 ?_
    refine lv_iload_n hx hb d_Mo_decode_56 rfl (lv_at hl 1 rfl) ?_
    refine va_iast hx hb hK hP hD hS 1 1 rfl rfl (vp_in_nI (by omega) (by decide)) d_Mo_decode_57 (fun H locs hP hD hS => ?_)
    have hP : va_P (dC, dI) vwCl [(rc, .inl (cI, 4096, .inl (upd g1 (nI K.length).toNatClampNeg (nI (cd_v (ut_at F p1)))))), (rl, .inl (cI, 4096, .inl (upd g2 (nI K.length).toNatClampNeg (nI p1)))), (rb, .inl (cI, 4096, .inl g3)), (mo, .inr (8, [.int 0, .int (nI F.length), .ref rt, .int mn, .ref rk, .ref rv, .ref rw, .ref ro, .int md, .ref rr, .int pt, .ref ra, .long pz, .int (nI K.length), .ref rc, .ref rl, .ref rb, .int (nI (lk_n (ut_at F p1))), .int (nI (cd_v (ut_at F p1)))])), (rt, .inl (cB, 4096, .inl ft))] H := hP
    have hD : va_D A [(rc, .inl (cI, 4096, .inl (upd g1 (nI K.length).toNatClampNeg (nI (cd_v (ut_at F p1)))))), (rl, .inl (cI, 4096, .inl (upd g2 (nI K.length).toNatClampNeg (nI p1)))), (rb, .inl (cI, 4096, .inl g3)), (mo, .inr (8, [.int 0, .int (nI F.length), .ref rt, .int mn, .ref rk, .ref rv, .ref rw, .ref ro, .int md, .ref rr, .int pt, .ref ra, .long pz, .int (nI K.length), .ref rc, .ref rl, .ref rb, .int (nI (lk_n (ut_at F p1))), .int (nI (cd_v (ut_at F p1)))])), (rt, .inl (cB, 4096, .inl ft))] := hD
    refine lv_aload_n hx hb d_Mo_decode_58 rfl (lv_at hl 0 rfl) ?_
    refine va_get (D := (dC, dI)) (ci := 8) (v := .ref rb) (C := "TextForgeModel") (T := TX8) (N := 19) hx hb hg iwX8 hown hK hP 3 rfl rfl 16 (by decide) (hg _ kw_742) (fun _ h9 => h9) rfl d_Mo_decode_59 ?_
    refine lv_aload_n hx hb d_Mo_decode_62 rfl (lv_at hl 0 rfl) ?_
    refine va_get (D := (dC, dI)) (ci := 8) (v := .int (nI K.length)) (C := "TextForgeModel") (T := TX8) (N := 19) hx hb hg iwX8 hown hK hP 3 rfl rfl 13 (by decide) (hg _ kw_739) (fun _ h9 => h9) rfl d_Mo_decode_63 ?_
    refine lv_aload_n hx hb d_Mo_decode_66 rfl (lv_at hl 0 rfl) ?_
    refine va_get (D := (dC, dI)) (ci := 8) (v := .int (nI (lk_n (ut_at F p1)))) (C := "TextForgeModel") (T := TX8) (N := 19) hx hb hg iwX8 hown hK hP 3 rfl rfl 17 (by decide) (hg _ kw_743) (fun _ h9 => h9) rfl d_Mo_decode_67 ?_
    refine lv_if_ne (tgt := 77) hx hb d_Mo_decode_70 (by decide) (fun c_70 => ?_) (fun c_70 => ?_)
    · skip
      have f_70 : lk_n (ut_at F p1) ≠ 0 := nI_ne (b := 0) c_70
      refine lv_aload_n hx hb d_Mo_decode_77 rfl (lv_at hl 0 rfl) ?_
      refine va_get (D := (dC, dI)) (ci := 8) (v := .int (nI (lk_n (ut_at F p1)))) (C := "TextForgeModel") (T := TX8) (N := 19) hx hb hg iwX8 hown hK hP 3 rfl rfl 17 (by decide) (hg _ kw_743) (fun _ h9 => h9) rfl d_Mo_decode_78 ?_
      refine lv_topi (fun y_5 ey_5 => ?_)
      have ey_5 : y_5 = (nI (ut_bo (ut_at F p1)) : Int32) := ey_5.trans (show (nI (lk_n (ut_at F p1))) = nI (ut_bo (ut_at F p1)) from (by rw [qr_bo.2 f_70]))
      subst ey_5
      refine va_iast hx hb hK hP hD hS 2 1 rfl rfl (vp_in_nI (by omega) (by decide)) d_Mo_decode_81 (fun H locs hP hD hS => ?_)
      have hP : va_P (dC, dI) vwCl [(rc, .inl (cI, 4096, .inl (upd g1 (nI K.length).toNatClampNeg (nI (cd_v (ut_at F p1)))))), (rl, .inl (cI, 4096, .inl (upd g2 (nI K.length).toNatClampNeg (nI p1)))), (rb, .inl (cI, 4096, .inl (upd g3 (nI K.length).toNatClampNeg (nI (ut_bo (ut_at F p1)))))), (mo, .inr (8, [.int 0, .int (nI F.length), .ref rt, .int mn, .ref rk, .ref rv, .ref rw, .ref ro, .int md, .ref rr, .int pt, .ref ra, .long pz, .int (nI K.length), .ref rc, .ref rl, .ref rb, .int (nI (lk_n (ut_at F p1))), .int (nI (cd_v (ut_at F p1)))])), (rt, .inl (cB, 4096, .inl ft))] H := hP
      have hD : va_D A [(rc, .inl (cI, 4096, .inl (upd g1 (nI K.length).toNatClampNeg (nI (cd_v (ut_at F p1)))))), (rl, .inl (cI, 4096, .inl (upd g2 (nI K.length).toNatClampNeg (nI p1)))), (rb, .inl (cI, 4096, .inl (upd g3 (nI K.length).toNatClampNeg (nI (ut_bo (ut_at F p1)))))), (mo, .inr (8, [.int 0, .int (nI F.length), .ref rt, .int mn, .ref rk, .ref rv, .ref rw, .ref ro, .int md, .ref rr, .int pt, .ref ra, .long pz, .int (nI K.length), .ref rc, .ref rl, .ref rb, .int (nI (lk_n (ut_at F p1))), .int (nI (cd_v (ut_at F p1)))])), (rt, .inl (cB, 4096, .inl ft))] := hD
      refine lv_iload_n hx hb d_Mo_decode_82 rfl (lv_at hl 1 rfl) ?_
      refine lv_aload_n hx hb d_Mo_decode_83 rfl (lv_at hl 0 rfl) ?_
      refine va_get (D := (dC, dI)) (ci := 8) (v := .ref rb) (C := "TextForgeModel") (T := TX8) (N := 19) hx hb hg iwX8 hown hK hP 3 rfl rfl 16 (by decide) (hg _ kw_742) (fun _ h9 => h9) rfl d_Mo_decode_84 ?_
      refine lv_aload_n hx hb d_Mo_decode_87 rfl (lv_at hl 0 rfl) ?_
      refine va_get (D := (dC, dI)) (ci := 8) (v := .int (nI K.length)) (C := "TextForgeModel") (T := TX8) (N := 19) hx hb hg iwX8 hown hK hP 3 rfl rfl 13 (by decide) (hg _ kw_739) (fun _ h9 => h9) rfl d_Mo_decode_88 ?_
      refine va_iald hx hb hK hP 2 1 rfl rfl (vp_in_nI (by omega) (by decide)) d_Mo_decode_91 ?_
      refine lv_topi (fun y_6 ey_6 => ?_)
      have ey_6 : y_6 = (nI (ut_bo (ut_at F p1)) : Int32) := ey_6.trans (show ((upd g3 (nI K.length).toNatClampNeg (nI (ut_bo (ut_at F p1)))) (nI K.length).toNatClampNeg) = nI (ut_bo (ut_at F p1)) from (upd_same _ _ _))
      subst ey_6
      refine lv_iadd hx hb d_Mo_decode_92 ?_
      refine lv_istore_n (lv' := [(1, .int ((nI p1) + (nI (ut_bo (ut_at F p1))))), (0, .ref mo)]) hx hb d_Mo_decode_93 rfl hl (by decide) rfl (fun ls hl => ?_)
      refine lv_aload_n hx hb d_Mo_decode_94 rfl (lv_at hl 1 rfl) ?_
      refine lv_dup hx hb d_Mo_decode_95 rfl ?_
      refine va_get (D := (dC, dI)) (ci := 8) (v := .int (nI K.length)) (C := "TextForgeModel") (T := TX8) (N := 19) hx hb hg iwX8 hown hK hP 3 rfl rfl 13 (by decide) (hg _ kw_739) (fun _ h9 => h9) rfl d_Mo_decode_96 ?_
      refine lv_iconst (v := 1) hx hb d_Mo_decode_99 (by decide) ?_
      refine lv_iadd hx hb d_Mo_decode_100 ?_
      refine va_put (D := (dC, dI)) (ci := 8) (v := .int ((nI K.length) + 1)) (ty := .int) (C := "TextForgeModel") (T := TX8) (N := 19) hx hb hg iwX8 tyX8 tyX8_ok nmX8 hown hK hP hD hS 3 rfl rfl 13 (by decide) (hg _ kw_739) (fun _ h9 => h9) rfl (by decide +kernel) rfl rfl (Nat.le_of_ble_eq_true rfl) d_Mo_decode_101 (fun H locs hP hD hS => ?_)
      have hP : va_P (dC, dI) vwCl [(rc, .inl (cI, 4096, .inl (upd g1 (nI K.length).toNatClampNeg (nI (cd_v (ut_at F p1)))))), (rl, .inl (cI, 4096, .inl (upd g2 (nI K.length).toNatClampNeg (nI p1)))), (rb, .inl (cI, 4096, .inl (upd g3 (nI K.length).toNatClampNeg (nI (ut_bo (ut_at F p1)))))), (mo, .inr (8, [.int 0, .int (nI F.length), .ref rt, .int mn, .ref rk, .ref rv, .ref rw, .ref ro, .int md, .ref rr, .int pt, .ref ra, .long pz, .int ((nI K.length) + 1), .ref rc, .ref rl, .ref rb, .int (nI (lk_n (ut_at F p1))), .int (nI (cd_v (ut_at F p1)))])), (rt, .inl (cB, 4096, .inl ft))] H := hP
      have hD : va_D A [(rc, .inl (cI, 4096, .inl (upd g1 (nI K.length).toNatClampNeg (nI (cd_v (ut_at F p1)))))), (rl, .inl (cI, 4096, .inl (upd g2 (nI K.length).toNatClampNeg (nI p1)))), (rb, .inl (cI, 4096, .inl (upd g3 (nI K.length).toNatClampNeg (nI (ut_bo (ut_at F p1)))))), (mo, .inr (8, [.int 0, .int (nI F.length), .ref rt, .int mn, .ref rk, .ref rv, .ref rw, .ref ro, .int md, .ref rr, .int pt, .ref ra, .long pz, .int ((nI K.length) + 1), .ref rc, .ref rl, .ref rb, .int (nI (lk_n (ut_at F p1))), .int (nI (cd_v (ut_at F p1)))])), (rt, .inl (cB, 4096, .inl ft))] := hD
      refine lv_goto (tgt := 12) hx hb d_Mo_decode_104 (by decide) ?_
      rw [cd_c1 K (cd_v (ut_at F p1), p1)] at hP hD
      rw [nI_add] at hl
      exact ih_12 (p1 + ut_bo (ut_at F p1), K ++ [(cd_v (ut_at F p1), p1)], (upd g1 (nI K.length).toNatClampNeg (nI (cd_v (ut_at F p1)))), (upd g2 (nI K.length).toNatClampNeg (nI p1)), (upd g3 (nI K.length).toNatClampNeg (nI (ut_bo (ut_at F p1)))), nI (lk_n (ut_at F p1)), nI (cd_v (ut_at F p1))) H locs ls ⟨hP.sub [3, 4, 0, 1, 2] rfl, hD.sub [3, 4, 0, 1, 2] (by decide) rfl, hS, lv_sub hl [1, 0] rfl, (cd_step hA9 (by omega)), (cd_Bs hB9 (by omega) rfl), (cd_E hE hpl), (qt_le hLt hpl), (cd_kl hKl (qt_pos _))⟩ (by dsimp only; have := qt_pos (ut_at F p1); omega)
    · skip
      have f_70 : ut_at F p1 = none := qr_bo.1 (nI_e1 (b := 0) c_70 (by have := lk_n4 (ut_at F p1); omega) (by decide))
      refine lv_iconst (v := 1) hx hb d_Mo_decode_73 (by decide) ?_
      refine lv_goto (tgt := 81) hx hb d_Mo_decode_74 (by decide) ?_
      refine lv_topi (fun y_7 ey_7 => ?_)
      have ey_7 : y_7 = (nI (ut_bo (ut_at F p1)) : Int32) := ey_7.trans (show 1 = nI (ut_bo (ut_at F p1)) from (by rw [f_70]; rfl))
      subst ey_7
      refine va_iast hx hb hK hP hD hS 2 1 rfl rfl (vp_in_nI (by omega) (by decide)) d_Mo_decode_81 (fun H locs hP hD hS => ?_)
      have hP : va_P (dC, dI) vwCl [(rc, .inl (cI, 4096, .inl (upd g1 (nI K.length).toNatClampNeg (nI (cd_v (ut_at F p1)))))), (rl, .inl (cI, 4096, .inl (upd g2 (nI K.length).toNatClampNeg (nI p1)))), (rb, .inl (cI, 4096, .inl (upd g3 (nI K.length).toNatClampNeg (nI (ut_bo (ut_at F p1)))))), (mo, .inr (8, [.int 0, .int (nI F.length), .ref rt, .int mn, .ref rk, .ref rv, .ref rw, .ref ro, .int md, .ref rr, .int pt, .ref ra, .long pz, .int (nI K.length), .ref rc, .ref rl, .ref rb, .int (nI (lk_n (ut_at F p1))), .int (nI (cd_v (ut_at F p1)))])), (rt, .inl (cB, 4096, .inl ft))] H := hP
      have hD : va_D A [(rc, .inl (cI, 4096, .inl (upd g1 (nI K.length).toNatClampNeg (nI (cd_v (ut_at F p1)))))), (rl, .inl (cI, 4096, .inl (upd g2 (nI K.length).toNatClampNeg (nI p1)))), (rb, .inl (cI, 4096, .inl (upd g3 (nI K.length).toNatClampNeg (nI (ut_bo (ut_at F p1)))))), (mo, .inr (8, [.int 0, .int (nI F.length), .ref rt, .int mn, .ref rk, .ref rv, .ref rw, .ref ro, .int md, .ref rr, .int pt, .ref ra, .long pz, .int (nI K.length), .ref rc, .ref rl, .ref rb, .int (nI (lk_n (ut_at F p1))), .int (nI (cd_v (ut_at F p1)))])), (rt, .inl (cB, 4096, .inl ft))] := hD
      refine lv_iload_n hx hb d_Mo_decode_82 rfl (lv_at hl 1 rfl) ?_
      refine lv_aload_n hx hb d_Mo_decode_83 rfl (lv_at hl 0 rfl) ?_
      refine va_get (D := (dC, dI)) (ci := 8) (v := .ref rb) (C := "TextForgeModel") (T := TX8) (N := 19) hx hb hg iwX8 hown hK hP 3 rfl rfl 16 (by decide) (hg _ kw_742) (fun _ h9 => h9) rfl d_Mo_decode_84 ?_
      refine lv_aload_n hx hb d_Mo_decode_87 rfl (lv_at hl 0 rfl) ?_
      refine va_get (D := (dC, dI)) (ci := 8) (v := .int (nI K.length)) (C := "TextForgeModel") (T := TX8) (N := 19) hx hb hg iwX8 hown hK hP 3 rfl rfl 13 (by decide) (hg _ kw_739) (fun _ h9 => h9) rfl d_Mo_decode_88 ?_
      refine va_iald hx hb hK hP 2 1 rfl rfl (vp_in_nI (by omega) (by decide)) d_Mo_decode_91 ?_
      refine lv_topi (fun y_8 ey_8 => ?_)
      have ey_8 : y_8 = (nI (ut_bo (ut_at F p1)) : Int32) := ey_8.trans (show ((upd g3 (nI K.length).toNatClampNeg (nI (ut_bo (ut_at F p1)))) (nI K.length).toNatClampNeg) = nI (ut_bo (ut_at F p1)) from (upd_same _ _ _))
      subst ey_8
      refine lv_iadd hx hb d_Mo_decode_92 ?_
      refine lv_istore_n (lv' := [(1, .int ((nI p1) + (nI (ut_bo (ut_at F p1))))), (0, .ref mo)]) hx hb d_Mo_decode_93 rfl hl (by decide) rfl (fun ls hl => ?_)
      refine lv_aload_n hx hb d_Mo_decode_94 rfl (lv_at hl 1 rfl) ?_
      refine lv_dup hx hb d_Mo_decode_95 rfl ?_
      refine va_get (D := (dC, dI)) (ci := 8) (v := .int (nI K.length)) (C := "TextForgeModel") (T := TX8) (N := 19) hx hb hg iwX8 hown hK hP 3 rfl rfl 13 (by decide) (hg _ kw_739) (fun _ h9 => h9) rfl d_Mo_decode_96 ?_
      refine lv_iconst (v := 1) hx hb d_Mo_decode_99 (by decide) ?_
      refine lv_iadd hx hb d_Mo_decode_100 ?_
      refine va_put (D := (dC, dI)) (ci := 8) (v := .int ((nI K.length) + 1)) (ty := .int) (C := "TextForgeModel") (T := TX8) (N := 19) hx hb hg iwX8 tyX8 tyX8_ok nmX8 hown hK hP hD hS 3 rfl rfl 13 (by decide) (hg _ kw_739) (fun _ h9 => h9) rfl (by decide +kernel) rfl rfl (Nat.le_of_ble_eq_true rfl) d_Mo_decode_101 (fun H locs hP hD hS => ?_)
      have hP : va_P (dC, dI) vwCl [(rc, .inl (cI, 4096, .inl (upd g1 (nI K.length).toNatClampNeg (nI (cd_v (ut_at F p1)))))), (rl, .inl (cI, 4096, .inl (upd g2 (nI K.length).toNatClampNeg (nI p1)))), (rb, .inl (cI, 4096, .inl (upd g3 (nI K.length).toNatClampNeg (nI (ut_bo (ut_at F p1)))))), (mo, .inr (8, [.int 0, .int (nI F.length), .ref rt, .int mn, .ref rk, .ref rv, .ref rw, .ref ro, .int md, .ref rr, .int pt, .ref ra, .long pz, .int ((nI K.length) + 1), .ref rc, .ref rl, .ref rb, .int (nI (lk_n (ut_at F p1))), .int (nI (cd_v (ut_at F p1)))])), (rt, .inl (cB, 4096, .inl ft))] H := hP
      have hD : va_D A [(rc, .inl (cI, 4096, .inl (upd g1 (nI K.length).toNatClampNeg (nI (cd_v (ut_at F p1)))))), (rl, .inl (cI, 4096, .inl (upd g2 (nI K.length).toNatClampNeg (nI p1)))), (rb, .inl (cI, 4096, .inl (upd g3 (nI K.length).toNatClampNeg (nI (ut_bo (ut_at F p1)))))), (mo, .inr (8, [.int 0, .int (nI F.length), .ref rt, .int mn, .ref rk, .ref rv, .ref rw, .ref ro, .int md, .ref rr, .int pt, .ref ra, .long pz, .int ((nI K.length) + 1), .ref rc, .ref rl, .ref rb, .int (nI (lk_n (ut_at F p1))), .int (nI (cd_v (ut_at F p1)))])), (rt, .inl (cB, 4096, .inl ft))] := hD
      refine lv_goto (tgt := 12) hx hb d_Mo_decode_104 (by decide) ?_
      rw [cd_c1 K (cd_v (ut_at F p1), p1)] at hP hD
      rw [nI_add] at hl
      exact ih_12 (p1 + ut_bo (ut_at F p1), K ++ [(cd_v (ut_at F p1), p1)], (upd g1 (nI K.length).toNatClampNeg (nI (cd_v (ut_at F p1)))), (upd g2 (nI K.length).toNatClampNeg (nI p1)), (upd g3 (nI K.length).toNatClampNeg (nI (ut_bo (ut_at F p1)))), nI (lk_n (ut_at F p1)), nI (cd_v (ut_at F p1))) H locs ls ⟨hP.sub [3, 4, 0, 1, 2] rfl, hD.sub [3, 4, 0, 1, 2] (by decide) rfl, hS, lv_sub hl [1, 0] rfl, (cd_step hA9 (by omega)), (cd_Bs hB9 (by omega) rfl), (cd_E hE hpl), (qt_le hLt hpl), (cd_kl hKl (qt_pos _))⟩ (by dsimp only; have := qt_pos (ut_at F p1); omega)
abbrev y_Mo_hexOf : MethodName := ⟨"TextForgeModel", "hexOf", "(IZ)V"⟩
abbrev w_Mo_hexOf : List Cond := Cond.code y_Mo_hexOf prog_12_method_33_code 5 none :: gw
theorem d_Mo_hexOf_0 : decode prog_12_method_33_code 0 = .ok (.aload_n 0, 1) := by decide +kernel
theorem d_Mo_hexOf_1 : decode prog_12_method_33_code 1 = .ok (.getfield 61, 3) := by decide +kernel
theorem d_Mo_hexOf_4 : decode prog_12_method_33_code 4 = .ok (.istore_n 3, 1) := by decide +kernel
theorem d_Mo_hexOf_5 : decode prog_12_method_33_code 5 = .ok (.aload_n 0, 1) := by decide +kernel
theorem d_Mo_hexOf_6 : decode prog_12_method_33_code 6 = .ok (.iload_n 1, 1) := by decide +kernel
theorem d_Mo_hexOf_7 : decode prog_12_method_33_code 7 = .ok (.invokevirtual 101, 3) := by decide +kernel
theorem d_Mo_hexOf_10 : decode prog_12_method_33_code 10 = .ok (.iload_n 3, 1) := by decide +kernel
theorem d_Mo_hexOf_11 : decode prog_12_method_33_code 11 = .ok (.istore 4, 2) := by decide +kernel
theorem d_Mo_hexOf_13 : decode prog_12_method_33_code 13 = .ok (.iload 4, 2) := by decide +kernel
theorem d_Mo_hexOf_15 : decode prog_12_method_33_code 15 = .ok (.aload_n 0, 1) := by decide +kernel
theorem d_Mo_hexOf_16 : decode prog_12_method_33_code 16 = .ok (.getfield 61, 3) := by decide +kernel
theorem d_Mo_hexOf_19 : decode prog_12_method_33_code 19 = .ok (.if_icmp .ge 43, 3) := by decide +kernel
theorem d_Mo_hexOf_22 : decode prog_12_method_33_code 22 = .ok (.iload_n 2, 1) := by decide +kernel
theorem d_Mo_hexOf_23 : decode prog_12_method_33_code 23 = .ok (.ifCond .eq 39, 3) := by decide +kernel
theorem d_Mo_hexOf_26 : decode prog_12_method_33_code 26 = .ok (.aload_n 0, 1) := by decide +kernel
theorem d_Mo_hexOf_27 : decode prog_12_method_33_code 27 = .ok (.getfield 31, 3) := by decide +kernel
theorem d_Mo_hexOf_30 : decode prog_12_method_33_code 30 = .ok (.iload 4, 2) := by decide +kernel
theorem d_Mo_hexOf_32 : decode prog_12_method_33_code 32 = .ok (.baload, 1) := by decide +kernel
theorem d_Mo_hexOf_33 : decode prog_12_method_33_code 33 = .ok (.bipush 97, 2) := by decide +kernel
theorem d_Mo_hexOf_35 : decode prog_12_method_33_code 35 = .ok (.if_icmp .lt 21, 3) := by decide +kernel
theorem d_Mo_hexOf_38 : decode prog_12_method_33_code 38 = .ok (.aload_n 0, 1) := by decide +kernel
theorem d_Mo_hexOf_39 : decode prog_12_method_33_code 39 = .ok (.getfield 31, 3) := by decide +kernel
theorem d_Mo_hexOf_42 : decode prog_12_method_33_code 42 = .ok (.iload 4, 2) := by decide +kernel
theorem d_Mo_hexOf_44 : decode prog_12_method_33_code 44 = .ok (.aload_n 0, 1) := by decide +kernel
theorem d_Mo_hexOf_45 : decode prog_12_method_33_code 45 = .ok (.getfield 31, 3) := by decide +kernel
theorem d_Mo_hexOf_48 : decode prog_12_method_33_code 48 = .ok (.iload 4, 2) := by decide +kernel
theorem d_Mo_hexOf_50 : decode prog_12_method_33_code 50 = .ok (.baload, 1) := by decide +kernel
theorem d_Mo_hexOf_51 : decode prog_12_method_33_code 51 = .ok (.bipush 32, 2) := by decide +kernel
theorem d_Mo_hexOf_53 : decode prog_12_method_33_code 53 = .ok (.isub, 1) := by decide +kernel
theorem d_Mo_hexOf_54 : decode prog_12_method_33_code 54 = .ok (.i2b, 1) := by decide +kernel
theorem d_Mo_hexOf_55 : decode prog_12_method_33_code 55 = .ok (.bastore, 1) := by decide +kernel
theorem d_Mo_hexOf_56 : decode prog_12_method_33_code 56 = .ok (.iinc 4 1, 3) := by decide +kernel
theorem d_Mo_hexOf_59 : decode prog_12_method_33_code 59 = .ok (.goto (-46), 3) := by decide +kernel
theorem d_Mo_hexOf_62 : decode prog_12_method_33_code 62 = .ok (.return_, 1) := by decide +kernel
set_option maxHeartbeats 4000000 in
set_option maxRecDepth 100000 in
theorem c_Mo_hexOf (l : Launch) (dC : Nat → ClassId) (dI : Nat → Nat → Nat) (mo rt rk rv rw ro rr ra rc rl rb : Nat) (th fd mn md pt : Int32) (pz : Int64) (kc la ca : Int32) (cB : ClassId) (fa : Nat → Int32) (P : List Nat) (v : Nat) (cp : Bool) (hLa : by_L P fa) (hpa : P.length + 2 ≤ 16400) (hv : v < 256) : zM_v (S := Nat → Int32) l y_Mo_hexOf w_Mo_hexOf { frames := 2, cells := 0, slots := 0, locals := 42 } (dC, dI) vwCl [.ref mo, .int (nI v), .int (by_z cp)] [(mo, .inr (8, [.int th, .int fd, .ref rt, .int mn, .ref rk, .ref rv, .ref rw, .ref ro, .int md, .ref rr, .int (nI P.length), .ref ra, .long pz, .int kc, .ref rc, .ref rl, .ref rb, .int la, .int ca])), (ra, .inl (cB, 16400, .inl fa))] [(cB, .byte)] (fun (u : Nat → Int32) => by_L (P ++ [nu_d (dg_t cp) (v / 16), nu_d (dg_t cp) (v % 16)]) u) (fun u => [(mo, .inr (8, [.int th, .int fd, .ref rt, .int mn, .ref rk, .ref rv, .ref rw, .ref ro, .int md, .ref rr, .int (nI (P ++ [nu_d (dg_t cp) (v / 16), nu_d (dg_t cp) (v % 16)]).length), .ref ra, .long pz, .int kc, .ref rc, .ref rl, .ref rb, .int la, .int ca])), (ra, .inl (cB, 16400, .inl u))]) (fun u => [(cB, .byte)]) 0 0 := by
  refine zz_enterv (cc := prog_12_method_33_code) (nL := 5) (ret := none) (by decide) rfl (Nat.le_of_ble_eq_true rfl) ?_
  intro p e s m below meth c A ls C0 hA hS hP hK hD hl
  obtain ⟨hx, hb, hml, hown, hg, hr, hlocks, hin⟩ := C0
  have hown : s.vm.findClass "TextForgeModel" = some m.cls := hown
  have hP : va_P (dC, dI) vwCl [(mo, .inr (8, [.int th, .int fd, .ref rt, .int mn, .ref rk, .ref rv, .ref rw, .ref ro, .int md, .ref rr, .int (nI P.length), .ref ra, .long pz, .int kc, .ref rc, .ref rl, .ref rb, .int la, .int ca])), (ra, .inl (cB, 16400, .inl fa))] s.heap := hP
  have hK : va_K (dC, dI) vwCl [(cB, .byte)] s := hK
  have hD : va_D A [(mo, .inr (8, [.int th, .int fd, .ref rt, .int mn, .ref rk, .ref rv, .ref rw, .ref ro, .int md, .ref rr, .int (nI P.length), .ref ra, .long pz, .int kc, .ref rc, .ref rl, .ref rb, .int la, .int ca])), (ra, .inl (cB, 16400, .inl fa))] := hD
  have hl : lv_has ls 5 [(0, .ref mo), (1, .int (nI v)), (2, .int (by_z cp))] := hl
  refine lv_aload_n hx hb d_Mo_hexOf_0 rfl (lv_at hl 0 rfl) ?_
  refine va_get (D := (dC, dI)) (ci := 8) (v := .int (nI P.length)) (C := "TextForgeModel") (T := TX8) (N := 19) hx hb hg iwX8 hown hK hP 0 rfl rfl 10 (by decide) (hg _ kw_736) (fun _ h9 => h9) rfl d_Mo_hexOf_1 ?_
  refine lv_istore_n (lv' := [(3, .int (nI P.length)), (0, .ref mo), (1, .int (nI v)), (2, .int (by_z cp))]) hx hb d_Mo_hexOf_4 rfl hl (by decide) rfl (fun ls hl => ?_)
  refine lv_aload_n hx hb d_Mo_hexOf_5 rfl (lv_at hl 1 rfl) ?_
  refine lv_iload_n hx hb d_Mo_hexOf_6 rfl (lv_at hl 2 rfl) ?_
  have hPc := hP.sub (ws' := [(mo, .inr (8, [.int th, .int fd, .ref rt, .int mn, .ref rk, .ref rv, .ref rw, .ref ro, .int md, .ref rr, .int (nI P.length), .ref ra, .long pz, .int kc, .ref rc, .ref rl, .ref rb, .int la, .int ca])), (ra, .inl (cB, 16400, .inl fa))]) [0, 1] rfl
  have hKc := hK.sub (tys' := [(cB, .byte)]) [0] rfl
  have hDc := hD.sub (ws' := [(mo, .inr (8, [.int th, .int fd, .ref rt, .int mn, .ref rk, .ref rv, .ref rw, .ref ro, .int md, .ref rr, .int (nI P.length), .ref ra, .long pz, .int kc, .ref rc, .ref rl, .ref rb, .int la, .int ca])), (ra, .inl (cB, 16400, .inl fa))]) [0, 1] (by decide) rfl
  have hFc := va_free (wc := [(mo, .inr (8, [.int th, .int fd, .ref rt, .int mn, .ref rk, .ref rv, .ref rw, .ref ro, .int md, .ref rr, .int (nI P.length), .ref ra, .long pz, .int kc, .ref rc, .ref rl, .ref rb, .int la, .int ca])), (ra, .inl (cB, 16400, .inl fa))]) hD hS hA [0, 1] rfl
  refine zz_callv (va_runV (As := [.int (nI v)]) (rest := []) ⟨hx, hb, hml, hown, hg⟩ (c_Mo_hex l dC dI mo rt rk rv rw ro rr ra rc rl rb th fd mn md (nI P.length) pz kc la ca cB fa P v hLa (by (try simp only [List.length_append, List.length_cons, List.length_nil]); omega) hv s.heap.size) (cwV 1 hg (gi_V kw_886 kw_888 sw_20 kw_9 kw_889) rfl rfl rfl (by decide +kernel) ⟨Nat.le_of_ble_eq_true rfl, Nat.le_of_ble_eq_true rfl⟩) (zz_preV hPc hKc hDc _ (q0 := 0) (ci := 8) rfl rfl) rfl rfl hl.1 rfl (lv_room (Nat.le_of_ble_eq_true rfl)) d_Mo_hexOf_7 ⟨Nat.le_of_ble_eq_true rfl, Nat.le_of_ble_eq_true rfl⟩) hS hFc (fun u H1 k9 p9 d9 => va_join (wr := []) hP hD [0, 1] [] rfl rfl (by decide) (by decide) k9 hFc p9 d9) (fun u H locs hw hP hD hK1 hS => ?_)
  obtain ⟨u_1, rfl⟩ : ∃ z, z = u := ⟨_, rfl⟩
  try dsimp only at hw
  have hP : va_P (dC, dI) vwCl [(mo, .inr (8, [.int th, .int fd, .ref rt, .int mn, .ref rk, .ref rv, .ref rw, .ref ro, .int md, .ref rr, .int (nI (P ++ [nu_d 97 (v / 16), nu_d 97 (v % 16)]).length), .ref ra, .long pz, .int kc, .ref rc, .ref rl, .ref rb, .int la, .int ca])), (ra, .inl (cB, 16400, .inl u_1))] H := hP
  have hD : va_D A [(mo, .inr (8, [.int th, .int fd, .ref rt, .int mn, .ref rk, .ref rv, .ref rw, .ref ro, .int md, .ref rr, .int (nI (P ++ [nu_d 97 (v / 16), nu_d 97 (v % 16)]).length), .ref ra, .long pz, .int kc, .ref rc, .ref rl, .ref rb, .int la, .int ca])), (ra, .inl (cB, 16400, .inl u_1))] := hD
  have hL_3 := hw
  refine lv_iload_n hx hb d_Mo_hexOf_10 rfl (lv_at hl 0 rfl) ?_
  refine lv_istore (lv' := [(4, .int (nI P.length)), (3, .int (nI P.length)), (0, .ref mo), (1, .int (nI v)), (2, .int (by_z cp))]) hx hb d_Mo_hexOf_11 hl (by decide) rfl (fun ls hl => ?_)
  refine lv_iload hx hb d_Mo_hexOf_13 (lv_at hl 0 rfl) ?_
  refine lv_aload_n hx hb d_Mo_hexOf_15 rfl (lv_at hl 2 rfl) ?_
  refine va_get (D := (dC, dI)) (ci := 8) (v := .int (nI (P ++ [nu_d 97 (v / 16), nu_d 97 (v % 16)]).length)) (C := "TextForgeModel") (T := TX8) (N := 19) hx hb hg iwX8 hown hK hP 0 rfl rfl 10 (by decide) (hg _ kw_736) (fun _ h9 => h9) rfl d_Mo_hexOf_16 ?_
  refine lv_icmp_ge (tgt := 62) hx hb d_Mo_hexOf_19 (by decide) (fun c9 => by first | exact absurd c9 (nI_ge (a := P.length) (b := (P ++ [nu_d 97 (v / 16), nu_d 97 (v % 16)]).length) (by rw [List.length_append]; show P.length < P.length + 2; omega) (by rw [List.length_append]; show P.length + 2 < 2 ^ 31; omega)) | exact absurd (nI_ge (a := P.length) (b := (P ++ [nu_d 97 (v / 16), nu_d 97 (v % 16)]).length) (by rw [List.length_append]; show P.length < P.length + 2; omega) (by rw [List.length_append]; show P.length + 2 < 2 ^ 31; omega)) c9) (fun _ => ?_)
  refine lv_iload_n hx hb d_Mo_hexOf_22 rfl (lv_at hl 4 rfl) ?_
  refine lv_if_eq (tgt := 62) hx hb d_Mo_hexOf_23 (by decide) (fun c_23 => ?_) (fun c_23 => ?_)
  · skip
    have hcp : cp = false := by_z_f rfl c_23
    have hP9 := hP.sub (ws' := [(mo, .inr (8, [.int th, .int fd, .ref rt, .int mn, .ref rk, .ref rv, .ref rw, .ref ro, .int md, .ref rr, .int (nI (P ++ [nu_d 97 (v / 16), nu_d 97 (v % 16)]).length), .ref ra, .long pz, .int kc, .ref rc, .ref rl, .ref rb, .int la, .int ca])), (ra, .inl (cB, 16400, .inl u_1))]) [0, 1] rfl
    have hD9 := hD.sub (ws' := [(mo, .inr (8, [.int th, .int fd, .ref rt, .int mn, .ref rk, .ref rv, .ref rw, .ref ro, .int md, .ref rr, .int (nI (P ++ [nu_d 97 (v / 16), nu_d 97 (v % 16)]).length), .ref ra, .long pz, .int kc, .ref rc, .ref rl, .ref rb, .int la, .int ca])), (ra, .inl (cB, 16400, .inl u_1))]) [0, 1] (by decide) rfl
    have hK9 := hK.sub (tys' := [(cB, .byte)]) [0] rfl
    rw [show (P ++ [nu_d 97 (v / 16), nu_d 97 (v % 16)]) = (P ++ [nu_d (dg_t cp) (v / 16), nu_d (dg_t cp) (v % 16)]) from (by rw [hcp]; rfl)] at hP9 hD9
    exact zz_vret hx hb hr hlocks d_Mo_hexOf_62 hS (by first | exact Nat.le_refl _ | decide | omega | (dsimp only; omega)) (by first | exact Nat.le_refl _ | decide | omega | (dsimp only; omega)) u_1 (by rw [show (P ++ [nu_d 97 (v / 16), nu_d 97 (v % 16)]) = (P ++ [nu_d (dg_t cp) (v / 16), nu_d (dg_t cp) (v % 16)]) from (by rw [hcp]; rfl)] at hL_3; exact hL_3) hP9 hK9 hD9
  · skip
    have hcp : cp = true := by_z_t rfl c_23
    refine lv_aload_n hx hb d_Mo_hexOf_26 rfl (lv_at hl 2 rfl) ?_
    refine va_get (D := (dC, dI)) (ci := 8) (v := .ref ra) (C := "TextForgeModel") (T := TX8) (N := 19) hx hb hg iwX8 hown hK hP 0 rfl rfl 11 (by decide) (hg _ kw_737) (fun _ h9 => h9) rfl d_Mo_hexOf_27 ?_
    refine lv_iload hx hb d_Mo_hexOf_30 (lv_at hl 0 rfl) ?_
    refine va_bald hx hb hK hP 1 0 rfl rfl (vp_in_nI (by omega) (by decide)) d_Mo_hexOf_32 ?_
    refine lv_topi (fun y_4 ey_4 => ?_)
    have ey_4 : y_4 = (sb_b (nu_d 97 (v / 16)) : Int32) := ey_4.trans (show (u_1 (nI P.length).toNatClampNeg) = sb_b (nu_d 97 (v / 16)) from (by_g2 hL_3 (by omega)).1)
    subst ey_4
    refine lv_bipush (v := 97) hx hb d_Mo_hexOf_33 (by decide) ?_
    refine lv_icmp_lt (tgt := 56) hx hb d_Mo_hexOf_35 (by decide) (fun c_35 => ?_) (fun c_35 => ?_)
    · skip
      have f_35a : ¬ 10 ≤ (v / 16) := fun z => absurd ((hxo_1 _ (by omega)).mpr z) (Int32.not_le.mpr c_35)
      have hL_5 : by_L (P ++ [nu_d 65 (v / 16), nu_d 97 (v % 16)]) u_1 := by rw [← hxo_3 f_35a]; exact hL_3
      rw [show nI (P ++ [nu_d 97 (v / 16), nu_d 97 (v % 16)]).length = nI (P ++ [nu_d 65 (v / 16), nu_d 97 (v % 16)]).length from by_l2] at hP hD
      have hP : va_P (dC, dI) vwCl [(mo, .inr (8, [.int th, .int fd, .ref rt, .int mn, .ref rk, .ref rv, .ref rw, .ref ro, .int md, .ref rr, .int (nI (P ++ [nu_d 65 (v / 16), nu_d 97 (v % 16)]).length), .ref ra, .long pz, .int kc, .ref rc, .ref rl, .ref rb, .int la, .int ca])), (ra, .inl (cB, 16400, .inl u_1))] H := hP
      have hD : va_D A [(mo, .inr (8, [.int th, .int fd, .ref rt, .int mn, .ref rk, .ref rv, .ref rw, .ref ro, .int md, .ref rr, .int (nI (P ++ [nu_d 65 (v / 16), nu_d 97 (v % 16)]).length), .ref ra, .long pz, .int kc, .ref rc, .ref rl, .ref rb, .int la, .int ca])), (ra, .inl (cB, 16400, .inl u_1))] := hD
      refine lv_iinc (v := (nI P.length) + 1) (lv' := [(4, .int ((nI P.length) + 1)), (3, .int (nI P.length)), (0, .ref mo), (1, .int (nI v)), (2, .int (by_z cp))]) hx hb d_Mo_hexOf_56 hl (k := 0) rfl rfl (by decide) rfl (fun ls hl => ?_)
      refine lv_goto (tgt := 13) hx hb d_Mo_hexOf_59 (by decide) ?_
      rw [nI_1] at hl
      have hl : lv_has ls 5 [(4, .int (nI (P.length + 1))), (3, .int (nI P.length)), (0, .ref mo), (1, .int (nI v)), (2, .int (by_z cp))] := hl
      refine lv_iload hx hb d_Mo_hexOf_13 (lv_at hl 0 rfl) ?_
      refine lv_aload_n hx hb d_Mo_hexOf_15 rfl (lv_at hl 2 rfl) ?_
      refine va_get (D := (dC, dI)) (ci := 8) (v := .int (nI (P ++ [nu_d 65 (v / 16), nu_d 97 (v % 16)]).length)) (C := "TextForgeModel") (T := TX8) (N := 19) hx hb hg iwX8 hown hK hP 0 rfl rfl 10 (by decide) (hg _ kw_736) (fun _ h9 => h9) rfl d_Mo_hexOf_16 ?_
      refine lv_icmp_ge (tgt := 62) hx hb d_Mo_hexOf_19 (by decide) (fun c9 => by first | exact absurd c9 (nI_ge (a := P.length + 1) (b := (P ++ [nu_d 65 (v / 16), nu_d 97 (v % 16)]).length) (by rw [List.length_append]; show P.length + 1 < P.length + 2; omega) (by rw [List.length_append]; show P.length + 2 < 2 ^ 31; omega)) | exact absurd (nI_ge (a := P.length + 1) (b := (P ++ [nu_d 65 (v / 16), nu_d 97 (v % 16)]).length) (by rw [List.length_append]; show P.length + 1 < P.length + 2; omega) (by rw [List.length_append]; show P.length + 2 < 2 ^ 31; omega)) c9) (fun _ => ?_)
      refine lv_iload_n hx hb d_Mo_hexOf_22 rfl (lv_at hl 4 rfl) ?_
      refine lv_if_eq (tgt := 62) hx hb d_Mo_hexOf_23 (by decide) (fun c9 => by first | exact absurd c9 c_23 | exact absurd c_23 c9) (fun _ => ?_)
      refine lv_aload_n hx hb d_Mo_hexOf_26 rfl (lv_at hl 2 rfl) ?_
      refine va_get (D := (dC, dI)) (ci := 8) (v := .ref ra) (C := "TextForgeModel") (T := TX8) (N := 19) hx hb hg iwX8 hown hK hP 0 rfl rfl 11 (by decide) (hg _ kw_737) (fun _ h9 => h9) rfl d_Mo_hexOf_27 ?_
      refine lv_iload hx hb d_Mo_hexOf_30 (lv_at hl 0 rfl) ?_
      refine va_bald hx hb hK hP 1 0 rfl rfl (vp_in_nI (by omega) (by decide)) d_Mo_hexOf_32 ?_
      refine lv_topi (fun y_6 ey_6 => ?_)
      have ey_6 : y_6 = (sb_b (nu_d 97 (v % 16)) : Int32) := ey_6.trans (show (u_1 (nI (P.length + 1)).toNatClampNeg) = sb_b (nu_d 97 (v % 16)) from (by_g2 hL_5 (by omega)).2)
      subst ey_6
      refine lv_bipush (v := 97) hx hb d_Mo_hexOf_33 (by decide) ?_
      refine lv_icmp_lt (tgt := 56) hx hb d_Mo_hexOf_35 (by decide) (fun c_35 => ?_) (fun c_35 => ?_)
      · skip
        have f_35b : ¬ 10 ≤ (v % 16) := fun z => absurd ((hxo_1 _ (by omega)).mpr z) (Int32.not_le.mpr c_35)
        have hL_7 : by_L (P ++ [nu_d 65 (v / 16), nu_d 65 (v % 16)]) u_1 := by rw [← hxo_3 f_35b]; exact hL_5
        rw [show nI (P ++ [nu_d 65 (v / 16), nu_d 97 (v % 16)]).length = nI (P ++ [nu_d 65 (v / 16), nu_d 65 (v % 16)]).length from by_l2] at hP hD
        have hP : va_P (dC, dI) vwCl [(mo, .inr (8, [.int th, .int fd, .ref rt, .int mn, .ref rk, .ref rv, .ref rw, .ref ro, .int md, .ref rr, .int (nI (P ++ [nu_d 65 (v / 16), nu_d 65 (v % 16)]).length), .ref ra, .long pz, .int kc, .ref rc, .ref rl, .ref rb, .int la, .int ca])), (ra, .inl (cB, 16400, .inl u_1))] H := hP
        have hD : va_D A [(mo, .inr (8, [.int th, .int fd, .ref rt, .int mn, .ref rk, .ref rv, .ref rw, .ref ro, .int md, .ref rr, .int (nI (P ++ [nu_d 65 (v / 16), nu_d 65 (v % 16)]).length), .ref ra, .long pz, .int kc, .ref rc, .ref rl, .ref rb, .int la, .int ca])), (ra, .inl (cB, 16400, .inl u_1))] := hD
        refine lv_iinc (v := (nI (P.length + 1)) + 1) (lv' := [(4, .int ((nI (P.length + 1)) + 1)), (3, .int (nI P.length)), (0, .ref mo), (1, .int (nI v)), (2, .int (by_z cp))]) hx hb d_Mo_hexOf_56 hl (k := 0) rfl rfl (by decide) rfl (fun ls hl => ?_)
        refine lv_goto (tgt := 13) hx hb d_Mo_hexOf_59 (by decide) ?_
        rw [nI_1] at hl
        have hl : lv_has ls 5 [(4, .int (nI (P.length + 2))), (3, .int (nI P.length)), (0, .ref mo), (1, .int (nI v)), (2, .int (by_z cp))] := hl
        refine lv_iload hx hb d_Mo_hexOf_13 (lv_at hl 0 rfl) ?_
        refine lv_aload_n hx hb d_Mo_hexOf_15 rfl (lv_at hl 2 rfl) ?_
        refine va_get (D := (dC, dI)) (ci := 8) (v := .int (nI (P ++ [nu_d 65 (v / 16), nu_d 65 (v % 16)]).length)) (C := "TextForgeModel") (T := TX8) (N := 19) hx hb hg iwX8 hown hK hP 0 rfl rfl 10 (by decide) (hg _ kw_736) (fun _ h9 => h9) rfl d_Mo_hexOf_16 ?_
        refine lv_icmp_ge (tgt := 62) hx hb d_Mo_hexOf_19 (by decide) (fun _ => ?_) (fun c9 => by first | exact absurd c9 (nI_le (a := (P ++ [nu_d 65 (v / 16), nu_d 65 (v % 16)]).length) (b := P.length + 2) (by rw [List.length_append]; exact Nat.le_refl _) (by omega)) | exact absurd (nI_le (a := (P ++ [nu_d 65 (v / 16), nu_d 65 (v % 16)]).length) (b := P.length + 2) (by rw [List.length_append]; exact Nat.le_refl _) (by omega)) c9)
        have hP9 := hP.sub (ws' := [(mo, .inr (8, [.int th, .int fd, .ref rt, .int mn, .ref rk, .ref rv, .ref rw, .ref ro, .int md, .ref rr, .int (nI (P ++ [nu_d 65 (v / 16), nu_d 65 (v % 16)]).length), .ref ra, .long pz, .int kc, .ref rc, .ref rl, .ref rb, .int la, .int ca])), (ra, .inl (cB, 16400, .inl u_1))]) [0, 1] rfl
        have hD9 := hD.sub (ws' := [(mo, .inr (8, [.int th, .int fd, .ref rt, .int mn, .ref rk, .ref rv, .ref rw, .ref ro, .int md, .ref rr, .int (nI (P ++ [nu_d 65 (v / 16), nu_d 65 (v % 16)]).length), .ref ra, .long pz, .int kc, .ref rc, .ref rl, .ref rb, .int la, .int ca])), (ra, .inl (cB, 16400, .inl u_1))]) [0, 1] (by decide) rfl
        have hK9 := hK.sub (tys' := [(cB, .byte)]) [0] rfl
        rw [show (P ++ [nu_d 65 (v / 16), nu_d 65 (v % 16)]) = (P ++ [nu_d (dg_t cp) (v / 16), nu_d (dg_t cp) (v % 16)]) from (by rw [hcp]; rfl)] at hP9 hD9
        exact zz_vret hx hb hr hlocks d_Mo_hexOf_62 hS (by first | exact Nat.le_refl _ | decide | omega | (dsimp only; omega)) (by first | exact Nat.le_refl _ | decide | omega | (dsimp only; omega)) u_1 (by rw [show (P ++ [nu_d 65 (v / 16), nu_d 65 (v % 16)]) = (P ++ [nu_d (dg_t cp) (v / 16), nu_d (dg_t cp) (v % 16)]) from (by rw [hcp]; rfl)] at hL_7; exact hL_7) hP9 hK9 hD9
      · skip
        have f_35b : 10 ≤ (v % 16) := (hxo_1 _ (by omega)).mp (Int32.not_lt.mp c_35)
        refine lv_aload_n hx hb d_Mo_hexOf_38 rfl (lv_at hl 2 rfl) ?_
        refine va_get (D := (dC, dI)) (ci := 8) (v := .ref ra) (C := "TextForgeModel") (T := TX8) (N := 19) hx hb hg iwX8 hown hK hP 0 rfl rfl 11 (by decide) (hg _ kw_737) (fun _ h9 => h9) rfl d_Mo_hexOf_39 ?_
        refine lv_iload hx hb d_Mo_hexOf_42 (lv_at hl 0 rfl) ?_
        refine lv_aload_n hx hb d_Mo_hexOf_44 rfl (lv_at hl 2 rfl) ?_
        refine va_get (D := (dC, dI)) (ci := 8) (v := .ref ra) (C := "TextForgeModel") (T := TX8) (N := 19) hx hb hg iwX8 hown hK hP 0 rfl rfl 11 (by decide) (hg _ kw_737) (fun _ h9 => h9) rfl d_Mo_hexOf_45 ?_
        refine lv_iload hx hb d_Mo_hexOf_48 (lv_at hl 0 rfl) ?_
        refine va_bald hx hb hK hP 1 0 rfl rfl (vp_in_nI (by omega) (by decide)) d_Mo_hexOf_50 ?_
        refine lv_topi (fun y_8 ey_8 => ?_)
        have ey_8 : y_8 = (sb_b (nu_d 97 (v % 16)) : Int32) := ey_8.trans (show (u_1 (nI (P.length + 1)).toNatClampNeg) = sb_b (nu_d 97 (v % 16)) from (by_g2 hL_5 (by omega)).2)
        subst ey_8
        refine lv_bipush (v := 32) hx hb d_Mo_hexOf_51 (by decide) ?_
        refine lv_isub hx hb d_Mo_hexOf_53 ?_
        refine lv_i2b hx hb d_Mo_hexOf_54 rfl ?_
        refine lv_topi (fun y_9 ey_9 => ?_)
        have ey_9 : y_9 = (sb_b (nu_d 65 (v % 16)) : Int32) := ey_9.trans (show (((sb_b (nu_d 97 (v % 16))) - 32).toInt8.toInt32) = sb_b (nu_d 65 (v % 16)) from (hxo_2 _ (by omega) f_35b).1)
        subst ey_9
        refine va_bast hx hb hK hP hD hS 1 0 rfl rfl (vp_in_nI (by omega) (by decide)) d_Mo_hexOf_55 (fun H locs hP hD hS => ?_)
        have hP : va_P (dC, dI) vwCl [(mo, .inr (8, [.int th, .int fd, .ref rt, .int mn, .ref rk, .ref rv, .ref rw, .ref ro, .int md, .ref rr, .int (nI (P ++ [nu_d 65 (v / 16), nu_d 97 (v % 16)]).length), .ref ra, .long pz, .int kc, .ref rc, .ref rl, .ref rb, .int la, .int ca])), (ra, .inl (cB, 16400, .inl (upd u_1 (nI (P.length + 1)).toNatClampNeg (vp_nar .byte (sb_b (nu_d 65 (v % 16)))))))] H := hP
        have hD : va_D A [(mo, .inr (8, [.int th, .int fd, .ref rt, .int mn, .ref rk, .ref rv, .ref rw, .ref ro, .int md, .ref rr, .int (nI (P ++ [nu_d 65 (v / 16), nu_d 97 (v % 16)]).length), .ref ra, .long pz, .int kc, .ref rc, .ref rl, .ref rb, .int la, .int ca])), (ra, .inl (cB, 16400, .inl (upd u_1 (nI (P.length + 1)).toNatClampNeg (vp_nar .byte (sb_b (nu_d 65 (v % 16)))))))] := hD
        have hL_10 := by_u2 hL_5 (by omega) (hxo_2 _ (by omega) f_35b).2
        rw [show nI (P ++ [nu_d 65 (v / 16), nu_d 97 (v % 16)]).length = nI (P ++ [nu_d 65 (v / 16), nu_d 65 (v % 16)]).length from by_l2] at hP hD
        have hP : va_P (dC, dI) vwCl [(mo, .inr (8, [.int th, .int fd, .ref rt, .int mn, .ref rk, .ref rv, .ref rw, .ref ro, .int md, .ref rr, .int (nI (P ++ [nu_d 65 (v / 16), nu_d 65 (v % 16)]).length), .ref ra, .long pz, .int kc, .ref rc, .ref rl, .ref rb, .int la, .int ca])), (ra, .inl (cB, 16400, .inl (upd u_1 (nI (P.length + 1)).toNatClampNeg (vp_nar .byte (sb_b (nu_d 65 (v % 16)))))))] H := hP
        have hD : va_D A [(mo, .inr (8, [.int th, .int fd, .ref rt, .int mn, .ref rk, .ref rv, .ref rw, .ref ro, .int md, .ref rr, .int (nI (P ++ [nu_d 65 (v / 16), nu_d 65 (v % 16)]).length), .ref ra, .long pz, .int kc, .ref rc, .ref rl, .ref rb, .int la, .int ca])), (ra, .inl (cB, 16400, .inl (upd u_1 (nI (P.length + 1)).toNatClampNeg (vp_nar .byte (sb_b (nu_d 65 (v % 16)))))))] := hD
        refine lv_iinc (v := (nI (P.length + 1)) + 1) (lv' := [(4, .int ((nI (P.length + 1)) + 1)), (3, .int (nI P.length)), (0, .ref mo), (1, .int (nI v)), (2, .int (by_z cp))]) hx hb d_Mo_hexOf_56 hl (k := 0) rfl rfl (by decide) rfl (fun ls hl => ?_)
        refine lv_goto (tgt := 13) hx hb d_Mo_hexOf_59 (by decide) ?_
        rw [nI_1] at hl
        have hl : lv_has ls 5 [(4, .int (nI (P.length + 2))), (3, .int (nI P.length)), (0, .ref mo), (1, .int (nI v)), (2, .int (by_z cp))] := hl
        refine lv_iload hx hb d_Mo_hexOf_13 (lv_at hl 0 rfl) ?_
        refine lv_aload_n hx hb d_Mo_hexOf_15 rfl (lv_at hl 2 rfl) ?_
        refine va_get (D := (dC, dI)) (ci := 8) (v := .int (nI (P ++ [nu_d 65 (v / 16), nu_d 65 (v % 16)]).length)) (C := "TextForgeModel") (T := TX8) (N := 19) hx hb hg iwX8 hown hK hP 0 rfl rfl 10 (by decide) (hg _ kw_736) (fun _ h9 => h9) rfl d_Mo_hexOf_16 ?_
        refine lv_icmp_ge (tgt := 62) hx hb d_Mo_hexOf_19 (by decide) (fun _ => ?_) (fun c9 => by first | exact absurd c9 (nI_le (a := (P ++ [nu_d 65 (v / 16), nu_d 65 (v % 16)]).length) (b := P.length + 2) (by rw [List.length_append]; exact Nat.le_refl _) (by omega)) | exact absurd (nI_le (a := (P ++ [nu_d 65 (v / 16), nu_d 65 (v % 16)]).length) (b := P.length + 2) (by rw [List.length_append]; exact Nat.le_refl _) (by omega)) c9)
        have hP9 := hP.sub (ws' := [(mo, .inr (8, [.int th, .int fd, .ref rt, .int mn, .ref rk, .ref rv, .ref rw, .ref ro, .int md, .ref rr, .int (nI (P ++ [nu_d 65 (v / 16), nu_d 65 (v % 16)]).length), .ref ra, .long pz, .int kc, .ref rc, .ref rl, .ref rb, .int la, .int ca])), (ra, .inl (cB, 16400, .inl (upd u_1 (nI (P.length + 1)).toNatClampNeg (vp_nar .byte (sb_b (nu_d 65 (v % 16)))))))]) [0, 1] rfl
        have hD9 := hD.sub (ws' := [(mo, .inr (8, [.int th, .int fd, .ref rt, .int mn, .ref rk, .ref rv, .ref rw, .ref ro, .int md, .ref rr, .int (nI (P ++ [nu_d 65 (v / 16), nu_d 65 (v % 16)]).length), .ref ra, .long pz, .int kc, .ref rc, .ref rl, .ref rb, .int la, .int ca])), (ra, .inl (cB, 16400, .inl (upd u_1 (nI (P.length + 1)).toNatClampNeg (vp_nar .byte (sb_b (nu_d 65 (v % 16)))))))]) [0, 1] (by decide) rfl
        have hK9 := hK.sub (tys' := [(cB, .byte)]) [0] rfl
        rw [show (P ++ [nu_d 65 (v / 16), nu_d 65 (v % 16)]) = (P ++ [nu_d (dg_t cp) (v / 16), nu_d (dg_t cp) (v % 16)]) from (by rw [hcp]; rfl)] at hP9 hD9
        exact zz_vret hx hb hr hlocks d_Mo_hexOf_62 hS (by first | exact Nat.le_refl _ | decide | omega | (dsimp only; omega)) (by first | exact Nat.le_refl _ | decide | omega | (dsimp only; omega)) (upd u_1 (nI (P.length + 1)).toNatClampNeg (vp_nar .byte (sb_b (nu_d 65 (v % 16))))) (by rw [show (P ++ [nu_d 65 (v / 16), nu_d 65 (v % 16)]) = (P ++ [nu_d (dg_t cp) (v / 16), nu_d (dg_t cp) (v % 16)]) from (by rw [hcp]; rfl)] at hL_10; exact hL_10) hP9 hK9 hD9
    · skip
      have f_35a : 10 ≤ (v / 16) := (hxo_1 _ (by omega)).mp (Int32.not_lt.mp c_35)
      refine lv_aload_n hx hb d_Mo_hexOf_38 rfl (lv_at hl 2 rfl) ?_
      refine va_get (D := (dC, dI)) (ci := 8) (v := .ref ra) (C := "TextForgeModel") (T := TX8) (N := 19) hx hb hg iwX8 hown hK hP 0 rfl rfl 11 (by decide) (hg _ kw_737) (fun _ h9 => h9) rfl d_Mo_hexOf_39 ?_
      refine lv_iload hx hb d_Mo_hexOf_42 (lv_at hl 0 rfl) ?_
      refine lv_aload_n hx hb d_Mo_hexOf_44 rfl (lv_at hl 2 rfl) ?_
      refine va_get (D := (dC, dI)) (ci := 8) (v := .ref ra) (C := "TextForgeModel") (T := TX8) (N := 19) hx hb hg iwX8 hown hK hP 0 rfl rfl 11 (by decide) (hg _ kw_737) (fun _ h9 => h9) rfl d_Mo_hexOf_45 ?_
      refine lv_iload hx hb d_Mo_hexOf_48 (lv_at hl 0 rfl) ?_
      refine va_bald hx hb hK hP 1 0 rfl rfl (vp_in_nI (by omega) (by decide)) d_Mo_hexOf_50 ?_
      refine lv_topi (fun y_11 ey_11 => ?_)
      have ey_11 : y_11 = (sb_b (nu_d 97 (v / 16)) : Int32) := ey_11.trans (show (u_1 (nI P.length).toNatClampNeg) = sb_b (nu_d 97 (v / 16)) from (by_g2 hL_3 (by omega)).1)
      subst ey_11
      refine lv_bipush (v := 32) hx hb d_Mo_hexOf_51 (by decide) ?_
      refine lv_isub hx hb d_Mo_hexOf_53 ?_
      refine lv_i2b hx hb d_Mo_hexOf_54 rfl ?_
      refine lv_topi (fun y_12 ey_12 => ?_)
      have ey_12 : y_12 = (sb_b (nu_d 65 (v / 16)) : Int32) := ey_12.trans (show (((sb_b (nu_d 97 (v / 16))) - 32).toInt8.toInt32) = sb_b (nu_d 65 (v / 16)) from (hxo_2 _ (by omega) f_35a).1)
      subst ey_12
      refine va_bast hx hb hK hP hD hS 1 0 rfl rfl (vp_in_nI (by omega) (by decide)) d_Mo_hexOf_55 (fun H locs hP hD hS => ?_)
      have hP : va_P (dC, dI) vwCl [(mo, .inr (8, [.int th, .int fd, .ref rt, .int mn, .ref rk, .ref rv, .ref rw, .ref ro, .int md, .ref rr, .int (nI (P ++ [nu_d 97 (v / 16), nu_d 97 (v % 16)]).length), .ref ra, .long pz, .int kc, .ref rc, .ref rl, .ref rb, .int la, .int ca])), (ra, .inl (cB, 16400, .inl (upd u_1 (nI P.length).toNatClampNeg (vp_nar .byte (sb_b (nu_d 65 (v / 16)))))))] H := hP
      have hD : va_D A [(mo, .inr (8, [.int th, .int fd, .ref rt, .int mn, .ref rk, .ref rv, .ref rw, .ref ro, .int md, .ref rr, .int (nI (P ++ [nu_d 97 (v / 16), nu_d 97 (v % 16)]).length), .ref ra, .long pz, .int kc, .ref rc, .ref rl, .ref rb, .int la, .int ca])), (ra, .inl (cB, 16400, .inl (upd u_1 (nI P.length).toNatClampNeg (vp_nar .byte (sb_b (nu_d 65 (v / 16)))))))] := hD
      have hL_13 := by_u1 hL_3 (by omega) (hxo_2 _ (by omega) f_35a).2
      rw [show nI (P ++ [nu_d 97 (v / 16), nu_d 97 (v % 16)]).length = nI (P ++ [nu_d 65 (v / 16), nu_d 97 (v % 16)]).length from by_l2] at hP hD
      have hP : va_P (dC, dI) vwCl [(mo, .inr (8, [.int th, .int fd, .ref rt, .int mn, .ref rk, .ref rv, .ref rw, .ref ro, .int md, .ref rr, .int (nI (P ++ [nu_d 65 (v / 16), nu_d 97 (v % 16)]).length), .ref ra, .long pz, .int kc, .ref rc, .ref rl, .ref rb, .int la, .int ca])), (ra, .inl (cB, 16400, .inl (upd u_1 (nI P.length).toNatClampNeg (vp_nar .byte (sb_b (nu_d 65 (v / 16)))))))] H := hP
      have hD : va_D A [(mo, .inr (8, [.int th, .int fd, .ref rt, .int mn, .ref rk, .ref rv, .ref rw, .ref ro, .int md, .ref rr, .int (nI (P ++ [nu_d 65 (v / 16), nu_d 97 (v % 16)]).length), .ref ra, .long pz, .int kc, .ref rc, .ref rl, .ref rb, .int la, .int ca])), (ra, .inl (cB, 16400, .inl (upd u_1 (nI P.length).toNatClampNeg (vp_nar .byte (sb_b (nu_d 65 (v / 16)))))))] := hD
      refine lv_iinc (v := (nI P.length) + 1) (lv' := [(4, .int ((nI P.length) + 1)), (3, .int (nI P.length)), (0, .ref mo), (1, .int (nI v)), (2, .int (by_z cp))]) hx hb d_Mo_hexOf_56 hl (k := 0) rfl rfl (by decide) rfl (fun ls hl => ?_)
      refine lv_goto (tgt := 13) hx hb d_Mo_hexOf_59 (by decide) ?_
      rw [nI_1] at hl
      have hl : lv_has ls 5 [(4, .int (nI (P.length + 1))), (3, .int (nI P.length)), (0, .ref mo), (1, .int (nI v)), (2, .int (by_z cp))] := hl
      refine lv_iload hx hb d_Mo_hexOf_13 (lv_at hl 0 rfl) ?_
      refine lv_aload_n hx hb d_Mo_hexOf_15 rfl (lv_at hl 2 rfl) ?_
      refine va_get (D := (dC, dI)) (ci := 8) (v := .int (nI (P ++ [nu_d 65 (v / 16), nu_d 97 (v % 16)]).length)) (C := "TextForgeModel") (T := TX8) (N := 19) hx hb hg iwX8 hown hK hP 0 rfl rfl 10 (by decide) (hg _ kw_736) (fun _ h9 => h9) rfl d_Mo_hexOf_16 ?_
      refine lv_icmp_ge (tgt := 62) hx hb d_Mo_hexOf_19 (by decide) (fun c9 => by first | exact absurd c9 (nI_ge (a := P.length + 1) (b := (P ++ [nu_d 65 (v / 16), nu_d 97 (v % 16)]).length) (by rw [List.length_append]; show P.length + 1 < P.length + 2; omega) (by rw [List.length_append]; show P.length + 2 < 2 ^ 31; omega)) | exact absurd (nI_ge (a := P.length + 1) (b := (P ++ [nu_d 65 (v / 16), nu_d 97 (v % 16)]).length) (by rw [List.length_append]; show P.length + 1 < P.length + 2; omega) (by rw [List.length_append]; show P.length + 2 < 2 ^ 31; omega)) c9) (fun _ => ?_)
      refine lv_iload_n hx hb d_Mo_hexOf_22 rfl (lv_at hl 4 rfl) ?_
      refine lv_if_eq (tgt := 62) hx hb d_Mo_hexOf_23 (by decide) (fun c9 => by first | exact absurd c9 c_23 | exact absurd c_23 c9) (fun _ => ?_)
      refine lv_aload_n hx hb d_Mo_hexOf_26 rfl (lv_at hl 2 rfl) ?_
      refine va_get (D := (dC, dI)) (ci := 8) (v := .ref ra) (C := "TextForgeModel") (T := TX8) (N := 19) hx hb hg iwX8 hown hK hP 0 rfl rfl 11 (by decide) (hg _ kw_737) (fun _ h9 => h9) rfl d_Mo_hexOf_27 ?_
      refine lv_iload hx hb d_Mo_hexOf_30 (lv_at hl 0 rfl) ?_
      refine va_bald hx hb hK hP 1 0 rfl rfl (vp_in_nI (by omega) (by decide)) d_Mo_hexOf_32 ?_
      refine lv_topi (fun y_14 ey_14 => ?_)
      have ey_14 : y_14 = (sb_b (nu_d 97 (v % 16)) : Int32) := ey_14.trans (show ((upd u_1 (nI P.length).toNatClampNeg (vp_nar .byte (sb_b (nu_d 65 (v / 16))))) (nI (P.length + 1)).toNatClampNeg) = sb_b (nu_d 97 (v % 16)) from (by_g2 hL_13 (by omega)).2)
      subst ey_14
      refine lv_bipush (v := 97) hx hb d_Mo_hexOf_33 (by decide) ?_
      refine lv_icmp_lt (tgt := 56) hx hb d_Mo_hexOf_35 (by decide) (fun c_35 => ?_) (fun c_35 => ?_)
      · skip
        have f_35b : ¬ 10 ≤ (v % 16) := fun z => absurd ((hxo_1 _ (by omega)).mpr z) (Int32.not_le.mpr c_35)
        have hL_15 : by_L (P ++ [nu_d 65 (v / 16), nu_d 65 (v % 16)]) (upd u_1 (nI P.length).toNatClampNeg (vp_nar .byte (sb_b (nu_d 65 (v / 16))))) := by rw [← hxo_3 f_35b]; exact hL_13
        rw [show nI (P ++ [nu_d 65 (v / 16), nu_d 97 (v % 16)]).length = nI (P ++ [nu_d 65 (v / 16), nu_d 65 (v % 16)]).length from by_l2] at hP hD
        have hP : va_P (dC, dI) vwCl [(mo, .inr (8, [.int th, .int fd, .ref rt, .int mn, .ref rk, .ref rv, .ref rw, .ref ro, .int md, .ref rr, .int (nI (P ++ [nu_d 65 (v / 16), nu_d 65 (v % 16)]).length), .ref ra, .long pz, .int kc, .ref rc, .ref rl, .ref rb, .int la, .int ca])), (ra, .inl (cB, 16400, .inl (upd u_1 (nI P.length).toNatClampNeg (vp_nar .byte (sb_b (nu_d 65 (v / 16)))))))] H := hP
        have hD : va_D A [(mo, .inr (8, [.int th, .int fd, .ref rt, .int mn, .ref rk, .ref rv, .ref rw, .ref ro, .int md, .ref rr, .int (nI (P ++ [nu_d 65 (v / 16), nu_d 65 (v % 16)]).length), .ref ra, .long pz, .int kc, .ref rc, .ref rl, .ref rb, .int la, .int ca])), (ra, .inl (cB, 16400, .inl (upd u_1 (nI P.length).toNatClampNeg (vp_nar .byte (sb_b (nu_d 65 (v / 16)))))))] := hD
        refine lv_iinc (v := (nI (P.length + 1)) + 1) (lv' := [(4, .int ((nI (P.length + 1)) + 1)), (3, .int (nI P.length)), (0, .ref mo), (1, .int (nI v)), (2, .int (by_z cp))]) hx hb d_Mo_hexOf_56 hl (k := 0) rfl rfl (by decide) rfl (fun ls hl => ?_)
        refine lv_goto (tgt := 13) hx hb d_Mo_hexOf_59 (by decide) ?_
        rw [nI_1] at hl
        have hl : lv_has ls 5 [(4, .int (nI (P.length + 2))), (3, .int (nI P.length)), (0, .ref mo), (1, .int (nI v)), (2, .int (by_z cp))] := hl
        refine lv_iload hx hb d_Mo_hexOf_13 (lv_at hl 0 rfl) ?_
        refine lv_aload_n hx hb d_Mo_hexOf_15 rfl (lv_at hl 2 rfl) ?_
        refine va_get (D := (dC, dI)) (ci := 8) (v := .int (nI (P ++ [nu_d 65 (v / 16), nu_d 65 (v % 16)]).length)) (C := "TextForgeModel") (T := TX8) (N := 19) hx hb hg iwX8 hown hK hP 0 rfl rfl 10 (by decide) (hg _ kw_736) (fun _ h9 => h9) rfl d_Mo_hexOf_16 ?_
        refine lv_icmp_ge (tgt := 62) hx hb d_Mo_hexOf_19 (by decide) (fun _ => ?_) (fun c9 => by first | exact absurd c9 (nI_le (a := (P ++ [nu_d 65 (v / 16), nu_d 65 (v % 16)]).length) (b := P.length + 2) (by rw [List.length_append]; exact Nat.le_refl _) (by omega)) | exact absurd (nI_le (a := (P ++ [nu_d 65 (v / 16), nu_d 65 (v % 16)]).length) (b := P.length + 2) (by rw [List.length_append]; exact Nat.le_refl _) (by omega)) c9)
        have hP9 := hP.sub (ws' := [(mo, .inr (8, [.int th, .int fd, .ref rt, .int mn, .ref rk, .ref rv, .ref rw, .ref ro, .int md, .ref rr, .int (nI (P ++ [nu_d 65 (v / 16), nu_d 65 (v % 16)]).length), .ref ra, .long pz, .int kc, .ref rc, .ref rl, .ref rb, .int la, .int ca])), (ra, .inl (cB, 16400, .inl (upd u_1 (nI P.length).toNatClampNeg (vp_nar .byte (sb_b (nu_d 65 (v / 16)))))))]) [0, 1] rfl
        have hD9 := hD.sub (ws' := [(mo, .inr (8, [.int th, .int fd, .ref rt, .int mn, .ref rk, .ref rv, .ref rw, .ref ro, .int md, .ref rr, .int (nI (P ++ [nu_d 65 (v / 16), nu_d 65 (v % 16)]).length), .ref ra, .long pz, .int kc, .ref rc, .ref rl, .ref rb, .int la, .int ca])), (ra, .inl (cB, 16400, .inl (upd u_1 (nI P.length).toNatClampNeg (vp_nar .byte (sb_b (nu_d 65 (v / 16)))))))]) [0, 1] (by decide) rfl
        have hK9 := hK.sub (tys' := [(cB, .byte)]) [0] rfl
        rw [show (P ++ [nu_d 65 (v / 16), nu_d 65 (v % 16)]) = (P ++ [nu_d (dg_t cp) (v / 16), nu_d (dg_t cp) (v % 16)]) from (by rw [hcp]; rfl)] at hP9 hD9
        exact zz_vret hx hb hr hlocks d_Mo_hexOf_62 hS (by first | exact Nat.le_refl _ | decide | omega | (dsimp only; omega)) (by first | exact Nat.le_refl _ | decide | omega | (dsimp only; omega)) (upd u_1 (nI P.length).toNatClampNeg (vp_nar .byte (sb_b (nu_d 65 (v / 16))))) (by rw [show (P ++ [nu_d 65 (v / 16), nu_d 65 (v % 16)]) = (P ++ [nu_d (dg_t cp) (v / 16), nu_d (dg_t cp) (v % 16)]) from (by rw [hcp]; rfl)] at hL_15; exact hL_15) hP9 hK9 hD9
      · skip
        have f_35b : 10 ≤ (v % 16) := (hxo_1 _ (by omega)).mp (Int32.not_lt.mp c_35)
        refine lv_aload_n hx hb d_Mo_hexOf_38 rfl (lv_at hl 2 rfl) ?_
        refine va_get (D := (dC, dI)) (ci := 8) (v := .ref ra) (C := "TextForgeModel") (T := TX8) (N := 19) hx hb hg iwX8 hown hK hP 0 rfl rfl 11 (by decide) (hg _ kw_737) (fun _ h9 => h9) rfl d_Mo_hexOf_39 ?_
        refine lv_iload hx hb d_Mo_hexOf_42 (lv_at hl 0 rfl) ?_
        refine lv_aload_n hx hb d_Mo_hexOf_44 rfl (lv_at hl 2 rfl) ?_
        refine va_get (D := (dC, dI)) (ci := 8) (v := .ref ra) (C := "TextForgeModel") (T := TX8) (N := 19) hx hb hg iwX8 hown hK hP 0 rfl rfl 11 (by decide) (hg _ kw_737) (fun _ h9 => h9) rfl d_Mo_hexOf_45 ?_
        refine lv_iload hx hb d_Mo_hexOf_48 (lv_at hl 0 rfl) ?_
        refine va_bald hx hb hK hP 1 0 rfl rfl (vp_in_nI (by omega) (by decide)) d_Mo_hexOf_50 ?_
        refine lv_topi (fun y_16 ey_16 => ?_)
        have ey_16 : y_16 = (sb_b (nu_d 97 (v % 16)) : Int32) := ey_16.trans (show ((upd u_1 (nI P.length).toNatClampNeg (vp_nar .byte (sb_b (nu_d 65 (v / 16))))) (nI (P.length + 1)).toNatClampNeg) = sb_b (nu_d 97 (v % 16)) from (by_g2 hL_13 (by omega)).2)
        subst ey_16
        refine lv_bipush (v := 32) hx hb d_Mo_hexOf_51 (by decide) ?_
        refine lv_isub hx hb d_Mo_hexOf_53 ?_
        refine lv_i2b hx hb d_Mo_hexOf_54 rfl ?_
        refine lv_topi (fun y_17 ey_17 => ?_)
        have ey_17 : y_17 = (sb_b (nu_d 65 (v % 16)) : Int32) := ey_17.trans (show (((sb_b (nu_d 97 (v % 16))) - 32).toInt8.toInt32) = sb_b (nu_d 65 (v % 16)) from (hxo_2 _ (by omega) f_35b).1)
        subst ey_17
        refine va_bast hx hb hK hP hD hS 1 0 rfl rfl (vp_in_nI (by omega) (by decide)) d_Mo_hexOf_55 (fun H locs hP hD hS => ?_)
        have hP : va_P (dC, dI) vwCl [(mo, .inr (8, [.int th, .int fd, .ref rt, .int mn, .ref rk, .ref rv, .ref rw, .ref ro, .int md, .ref rr, .int (nI (P ++ [nu_d 65 (v / 16), nu_d 97 (v % 16)]).length), .ref ra, .long pz, .int kc, .ref rc, .ref rl, .ref rb, .int la, .int ca])), (ra, .inl (cB, 16400, .inl (upd (upd u_1 (nI P.length).toNatClampNeg (vp_nar .byte (sb_b (nu_d 65 (v / 16))))) (nI (P.length + 1)).toNatClampNeg (vp_nar .byte (sb_b (nu_d 65 (v % 16)))))))] H := hP
        have hD : va_D A [(mo, .inr (8, [.int th, .int fd, .ref rt, .int mn, .ref rk, .ref rv, .ref rw, .ref ro, .int md, .ref rr, .int (nI (P ++ [nu_d 65 (v / 16), nu_d 97 (v % 16)]).length), .ref ra, .long pz, .int kc, .ref rc, .ref rl, .ref rb, .int la, .int ca])), (ra, .inl (cB, 16400, .inl (upd (upd u_1 (nI P.length).toNatClampNeg (vp_nar .byte (sb_b (nu_d 65 (v / 16))))) (nI (P.length + 1)).toNatClampNeg (vp_nar .byte (sb_b (nu_d 65 (v % 16)))))))] := hD
        have hL_18 := by_u2 hL_13 (by omega) (hxo_2 _ (by omega) f_35b).2
        rw [show nI (P ++ [nu_d 65 (v / 16), nu_d 97 (v % 16)]).length = nI (P ++ [nu_d 65 (v / 16), nu_d 65 (v % 16)]).length from by_l2] at hP hD
        have hP : va_P (dC, dI) vwCl [(mo, .inr (8, [.int th, .int fd, .ref rt, .int mn, .ref rk, .ref rv, .ref rw, .ref ro, .int md, .ref rr, .int (nI (P ++ [nu_d 65 (v / 16), nu_d 65 (v % 16)]).length), .ref ra, .long pz, .int kc, .ref rc, .ref rl, .ref rb, .int la, .int ca])), (ra, .inl (cB, 16400, .inl (upd (upd u_1 (nI P.length).toNatClampNeg (vp_nar .byte (sb_b (nu_d 65 (v / 16))))) (nI (P.length + 1)).toNatClampNeg (vp_nar .byte (sb_b (nu_d 65 (v % 16)))))))] H := hP
        have hD : va_D A [(mo, .inr (8, [.int th, .int fd, .ref rt, .int mn, .ref rk, .ref rv, .ref rw, .ref ro, .int md, .ref rr, .int (nI (P ++ [nu_d 65 (v / 16), nu_d 65 (v % 16)]).length), .ref ra, .long pz, .int kc, .ref rc, .ref rl, .ref rb, .int la, .int ca])), (ra, .inl (cB, 16400, .inl (upd (upd u_1 (nI P.length).toNatClampNeg (vp_nar .byte (sb_b (nu_d 65 (v / 16))))) (nI (P.length + 1)).toNatClampNeg (vp_nar .byte (sb_b (nu_d 65 (v % 16)))))))] := hD
        refine lv_iinc (v := (nI (P.length + 1)) + 1) (lv' := [(4, .int ((nI (P.length + 1)) + 1)), (3, .int (nI P.length)), (0, .ref mo), (1, .int (nI v)), (2, .int (by_z cp))]) hx hb d_Mo_hexOf_56 hl (k := 0) rfl rfl (by decide) rfl (fun ls hl => ?_)
        refine lv_goto (tgt := 13) hx hb d_Mo_hexOf_59 (by decide) ?_
        rw [nI_1] at hl
        have hl : lv_has ls 5 [(4, .int (nI (P.length + 2))), (3, .int (nI P.length)), (0, .ref mo), (1, .int (nI v)), (2, .int (by_z cp))] := hl
        refine lv_iload hx hb d_Mo_hexOf_13 (lv_at hl 0 rfl) ?_
        refine lv_aload_n hx hb d_Mo_hexOf_15 rfl (lv_at hl 2 rfl) ?_
        refine va_get (D := (dC, dI)) (ci := 8) (v := .int (nI (P ++ [nu_d 65 (v / 16), nu_d 65 (v % 16)]).length)) (C := "TextForgeModel") (T := TX8) (N := 19) hx hb hg iwX8 hown hK hP 0 rfl rfl 10 (by decide) (hg _ kw_736) (fun _ h9 => h9) rfl d_Mo_hexOf_16 ?_
        refine lv_icmp_ge (tgt := 62) hx hb d_Mo_hexOf_19 (by decide) (fun _ => ?_) (fun c9 => by first | exact absurd c9 (nI_le (a := (P ++ [nu_d 65 (v / 16), nu_d 65 (v % 16)]).length) (b := P.length + 2) (by rw [List.length_append]; exact Nat.le_refl _) (by omega)) | exact absurd (nI_le (a := (P ++ [nu_d 65 (v / 16), nu_d 65 (v % 16)]).length) (b := P.length + 2) (by rw [List.length_append]; exact Nat.le_refl _) (by omega)) c9)
        have hP9 := hP.sub (ws' := [(mo, .inr (8, [.int th, .int fd, .ref rt, .int mn, .ref rk, .ref rv, .ref rw, .ref ro, .int md, .ref rr, .int (nI (P ++ [nu_d 65 (v / 16), nu_d 65 (v % 16)]).length), .ref ra, .long pz, .int kc, .ref rc, .ref rl, .ref rb, .int la, .int ca])), (ra, .inl (cB, 16400, .inl (upd (upd u_1 (nI P.length).toNatClampNeg (vp_nar .byte (sb_b (nu_d 65 (v / 16))))) (nI (P.length + 1)).toNatClampNeg (vp_nar .byte (sb_b (nu_d 65 (v % 16)))))))]) [0, 1] rfl
        have hD9 := hD.sub (ws' := [(mo, .inr (8, [.int th, .int fd, .ref rt, .int mn, .ref rk, .ref rv, .ref rw, .ref ro, .int md, .ref rr, .int (nI (P ++ [nu_d 65 (v / 16), nu_d 65 (v % 16)]).length), .ref ra, .long pz, .int kc, .ref rc, .ref rl, .ref rb, .int la, .int ca])), (ra, .inl (cB, 16400, .inl (upd (upd u_1 (nI P.length).toNatClampNeg (vp_nar .byte (sb_b (nu_d 65 (v / 16))))) (nI (P.length + 1)).toNatClampNeg (vp_nar .byte (sb_b (nu_d 65 (v % 16)))))))]) [0, 1] (by decide) rfl
        have hK9 := hK.sub (tys' := [(cB, .byte)]) [0] rfl
        rw [show (P ++ [nu_d 65 (v / 16), nu_d 65 (v % 16)]) = (P ++ [nu_d (dg_t cp) (v / 16), nu_d (dg_t cp) (v % 16)]) from (by rw [hcp]; rfl)] at hP9 hD9
        exact zz_vret hx hb hr hlocks d_Mo_hexOf_62 hS (by first | exact Nat.le_refl _ | decide | omega | (dsimp only; omega)) (by first | exact Nat.le_refl _ | decide | omega | (dsimp only; omega)) (upd (upd u_1 (nI P.length).toNatClampNeg (vp_nar .byte (sb_b (nu_d 65 (v / 16))))) (nI (P.length + 1)).toNatClampNeg (vp_nar .byte (sb_b (nu_d 65 (v % 16))))) (by rw [show (P ++ [nu_d 65 (v / 16), nu_d 65 (v % 16)]) = (P ++ [nu_d (dg_t cp) (v / 16), nu_d (dg_t cp) (v % 16)]) from (by rw [hcp]; rfl)] at hL_18; exact hL_18) hP9 hK9 hD9
