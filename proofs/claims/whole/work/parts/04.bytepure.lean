/-! BYTES, PURE: a text as a list of numbers below 256, and the array that holds it -/
def by_L (L : List Nat) (f : Nat → Int32) : Prop := ∀ j, j < L.length → L.getD j 0 < 256 ∧ f j = sb_b (L.getD j 0)
def by_b (v : Int32) : Nat := v.toBitVec.toNat % 256
/-- what a row of 'cap' places holds behind an appending -/
def by_ap (cap : Nat) (L M : List Nat) : List Nat := (L ++ M).take cap
theorem by_b_lt (v : Int32) : by_b v < 256 := Nat.mod_lt _ (by decide)
theorem by_nil (f : Nat → Int32) : by_L [] f := fun j h => absurd h (Nat.not_lt_zero j)
theorem by_take {L : List Nat} {f : Nat → Int32} (h : by_L L f) (k : Nat) : by_L (L.take k) f := by
  intro j hj
  rw [List.length_take] at hj
  have e : (L.take k).getD j 0 = L.getD j 0 := by
    rw [List.getD_eq_getElem?_getD, List.getD_eq_getElem?_getD, List.getElem?_take, if_pos (by omega)]
  rw [e]
  exact h j (by omega)
theorem by_push {L : List Nat} {f : Nat → Int32} (h : by_L L f) {b : Nat} (hb : b < 256) {x : Int32} (hx : x = sb_b b) : by_L (L ++ [b]) (upd f L.length x) := by
  intro j hj
  rw [List.length_append, List.length_singleton] at hj
  rcases Nat.lt_or_ge j L.length with q | q
  · have e : (L ++ [b]).getD j 0 = L.getD j 0 := by
      rw [List.getD_eq_getElem?_getD, List.getD_eq_getElem?_getD, List.getElem?_append_left q]
    rw [e, pk_un (by omega)]
    exact h j q
  · have e0 : j = L.length := by omega
    subst e0
    have e : (L ++ [b]).getD L.length 0 = b := by
      rw [List.getD_eq_getElem?_getD, List.getElem?_append_right (Nat.le_refl _)]; simp
    rw [e, pk_us]
    exact ⟨hb, hx⟩
theorem by_i8 (v : Int32) : v.toInt8.toInt32 = sb_b (by_b v) := by
  have e : v.toInt8 = (nI (by_b v)).toInt8 := by
    apply Int8.toBitVec_inj.mp
    rw [Int32.toBitVec_toInt8, Int32.toBitVec_toInt8, BitVec.signExtend_eq_setWidth_of_le _ (by decide), BitVec.signExtend_eq_setWidth_of_le _ (by decide)]
    apply BitVec.eq_of_toNat_eq
    have h1 := pk_tn (n := by_b v) (by have := by_b_lt v; omega)
    rw [BitVec.toNat_setWidth, BitVec.toNat_setWidth, h1]
    unfold by_b
    omega
  rw [e]; rfl
theorem by_nar (v : Int32) : vp_nar .byte v.toInt8.toInt32 = sb_b (by_b v) := by rw [pk_vb, by_i8]
theorem by_nar2 (v : Int32) : vp_nar .byte v = sb_b (by_b v) := by rw [vp_nar_byte, by_i8]
theorem by_ap_lt {cap : Nat} {L : List Nat} {b : Nat} (h : L.length < cap) : by_ap cap L [b] = L ++ [b] := by
  unfold by_ap
  exact List.take_of_length_le (by rw [List.length_append, List.length_singleton]; omega)
theorem by_ap_full {cap : Nat} {L M : List Nat} (h : L.length ≤ cap) (h2 : ¬ L.length < cap) : by_ap cap L M = L := by
  unfold by_ap
  rw [List.take_append_of_le_length (by omega)]
  exact List.take_of_length_le h
theorem by_ap_len (cap : Nat) (L M : List Nat) : (by_ap cap L M).length ≤ cap := by
  unfold by_ap; rw [List.length_take]; omega
theorem by_ap_ap (cap : Nat) (L M K : List Nat) : by_ap cap (by_ap cap L M) K = by_ap cap L (M ++ K) := by
  unfold by_ap
  rw [← List.append_assoc, List.take_append, List.take_take, List.take_append (l₁ := L ++ M)]
  rcases Nat.lt_or_ge (L ++ M).length cap with q | q
  · rw [List.length_take, Nat.min_self, Nat.min_eq_right (Nat.le_of_lt q)]
  · rw [List.length_take, Nat.min_self, Nat.min_eq_left q, Nat.sub_self, Nat.sub_eq_zero_of_le q]
theorem by_ap_nil {cap : Nat} {L : List Nat} (h : L.length ≤ cap) : by_ap cap L [] = L := by
  unfold by_ap; rw [List.append_nil]; exact List.take_of_length_le h
/-- what 'at' answers -/
def by_at (L : List Nat) (x : Int32) : Int32 := if 0 ≤ x ∧ x < nI L.length then nI (L.getD x.toNatClampNeg 0) else -1
theorem by_at_in {L : List Nat} {j : Nat} (hj : j < L.length) (hL : L.length < 2 ^ 31) : by_at L (nI j) = nI (L.getD j 0) := by
  unfold by_at
  rw [if_pos ⟨nI_pos' (by omega), nI_lt hj hL⟩, nI_clamp (by omega)]
theorem by_at_out {L : List Nat} {j : Nat} (hj : L.length ≤ j) (hL : j < 2 ^ 31) : by_at L (nI j) = -1 := by
  unfold by_at
  rw [if_neg (fun h => nI_nlt hj hL h.2)]
