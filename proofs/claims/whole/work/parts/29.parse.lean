/-! TEXTFORGE: parse -/
def dgN (c : Nat) : Nat := if 48 ≤ c ∧ c ≤ 57 then c - 48 else if 97 ≤ c ∧ c ≤ 122 then c - 87 else if 65 ≤ c ∧ c ≤ 90 then c - 55 else 99
theorem dg_n : ∀ c, c < 256 → dg_v (nI c) = if dgN c < 36 then nI (dgN c) else -1 := by decide +kernel
theorem dgN_r (c : Nat) : dgN c < 36 ∨ dgN c = 99 := by unfold dgN; split; omega; split; omega; split <;> omega
def ps_f (b : Nat) (m : Int) : List Nat → Int → Option Int
  | [], v => some v
  | c :: r, v => if dgN c < b ∧ m ≤ v * b - dgN c then ps_f b m r (v * b - dgN c) else none
def ps_k (F : List Nat) : Nat := if F.getD 0 0 = 43 ∨ F.getD 0 0 = 45 then 1 else 0
def ps_n (F : List Nat) : Bool := decide (F.getD 0 0 = 45)
def ps_m (F : List Nat) : Int := if ps_n F then -9223372036854775808 else -9223372036854775807
def ps_v (F : List Nat) (b : Nat) : Option Int := if ps_k F < F.length then (ps_f b (ps_m F) (F.drop (ps_k F)) 0).map (fun v => if ps_n F then v else -v) else none
def ps_l (ln : Int64) (o : Option Int) : Int64 := match o with
  | some v => Int64.ofInt v
  | none => ln
theorem lz_bm {n : Int} (h1 : -9223372036854775808 ≤ n) (h2 : n ≤ 9223372036854775807) : n.bmod (2 ^ 64) = n := by
  rw [Int.bmod_eq_of_le (by omega) (by omega)]
theorem lz_b {b : Nat} (hb : b < 1000) : (nI b).toInt64.toInt = b := by rw [Int32.toInt_toInt64, nI_toInt (by omega)]
theorem lz_mul {x y : Int64} {v w : Int} (hx : x.toInt = v) (hy : y.toInt = w) (h1 : -9223372036854775808 ≤ v * w) (h2 : v * w ≤ 9223372036854775807) : (x * y).toInt = v * w := by
  rw [Int64.toInt_mul, hx, hy]; exact lz_bm h1 h2
theorem lz_add {x y : Int64} {v w : Int} (hx : x.toInt = v) (hy : y.toInt = w) (h1 : -9223372036854775808 ≤ v + w) (h2 : v + w ≤ 9223372036854775807) : (x + y).toInt = v + w := by
  rw [Int64.toInt_add, hx, hy]; exact lz_bm h1 h2
theorem lz_sub {x y : Int64} {v w : Int} (hx : x.toInt = v) (hy : y.toInt = w) (h1 : -9223372036854775808 ≤ v - w) (h2 : v - w ≤ 9223372036854775807) : (x - y).toInt = v - w := by
  rw [Int64.toInt_sub, hx, hy]; exact lz_bm h1 h2
theorem lz_neg {x : Int64} {v : Int} (hx : x.toInt = v) (h1 : -9223372036854775808 < v) (h2 : v ≤ 9223372036854775807) : (-x).toInt = -v := by
  rw [Int64.toInt_neg, hx]; exact lz_bm (by omega) (by omega)
theorem lz_div {x y : Int64} {v w : Int} (hx : x.toInt = v) (hy : y.toInt = w) (h0 : 2 ≤ w) (h1 : -9223372036854775808 ≤ v) (h2 : v ≤ 0) : (x / y).toInt = v.tdiv w := by
  rw [Int64.toInt_div, hx, hy]
  have a : -9223372036854775808 ≤ v.tdiv w ∧ v.tdiv w ≤ 0 := by
    obtain ⟨n, rfl⟩ : ∃ n : Nat, v = -(n : Int) := ⟨v.natAbs, by omega⟩
    obtain ⟨k, rfl⟩ : ∃ k : Nat, w = (k : Int) := ⟨w.natAbs, by omega⟩
    rw [Int.neg_tdiv, ← Int.ofNat_tdiv]
    have : n / k ≤ n := Nat.div_le_self _ _
    generalize n / k = q at this
    omega
  exact lz_bm a.1 (by omega)
theorem lz_of {x : Int64} {v : Int} (hx : x.toInt = v) : x = Int64.ofInt v := by rw [← hx, Int64.ofInt_toInt]
theorem ps_td {m : Int} {b : Nat} (hb : 2 ≤ b) (hm : m ≤ 0) : ∃ q r : Nat, r < b ∧ m = -((q : Int) * b + r) ∧ m.tdiv b = -(q : Int) := by
  obtain ⟨n, rfl⟩ : ∃ n : Nat, m = -(n : Int) := ⟨m.natAbs, by omega⟩
  refine ⟨n / b, n % b, Nat.mod_lt _ (by omega), ?_, by rw [Int.neg_tdiv, ← Int.ofNat_tdiv]⟩
  have : n / b * b + n % b = n := by rw [Nat.mul_comm]; exact Nat.div_add_mod n b
  have h2 : ((n / b : Nat) : Int) * (b : Int) + ((n % b : Nat) : Int) = (n : Int) := by rw [← Int.natCast_mul, ← Int.natCast_add, this]
  rw [h2]
theorem ps_lo {m v : Int} {b : Nat} (hb : 2 ≤ b) (hm : m ≤ 0) (h : v < m.tdiv b) : v * b < m := by
  obtain ⟨q, r, hr, e1, e2⟩ := ps_td hb hm
  rw [e2] at h; rw [e1]
  have : v * b ≤ (-(q : Int) - 1) * b := Int.mul_le_mul_of_nonneg_right (by omega) (by omega)
  rw [Int.sub_mul, Int.neg_mul] at this
  omega
theorem ps_hi {m v : Int} {b : Nat} (hb : 2 ≤ b) (hm : m ≤ 0) (h : m.tdiv b ≤ v) : m ≤ v * b := by
  obtain ⟨q, r, hr, e1, e2⟩ := ps_td hb hm
  rw [e2] at h; rw [e1]
  have : (-(q : Int)) * b ≤ v * b := Int.mul_le_mul_of_nonneg_right h (by omega)
  rw [Int.neg_mul] at this
  omega
theorem ps_no {b : Nat} {m v : Int} {F : List Nat} {i : Nat} (hi : i < F.length) (h : ¬ (dgN (F.getD i 0) < b ∧ m ≤ v * b - dgN (F.getD i 0))) : ps_f b m (F.drop i) v = none := by
  rw [List.drop_eq_getElem_cons hi, ps_f, if_neg]
  rw [List.getD_eq_getElem?_getD, List.getElem?_eq_getElem hi] at h
  exact h
theorem ps_yes {b : Nat} {m v : Int} {F : List Nat} {i : Nat} (hi : i < F.length) (h1 : dgN (F.getD i 0) < b) (h2 : m ≤ v * b - dgN (F.getD i 0)) : ps_f b m (F.drop i) v = ps_f b m (F.drop (i + 1)) (v * b - dgN (F.getD i 0)) := by
  rw [List.drop_eq_getElem_cons hi, ps_f]
  rw [List.getD_eq_getElem?_getD, List.getElem?_eq_getElem hi] at h1 h2 ⊢
  rw [if_pos ⟨h1, h2⟩]; rfl
theorem ps_end {b : Nat} {m v : Int} {F : List Nat} {i : Nat} (hi : F.length ≤ i) : ps_f b m (F.drop i) v = some v := by
  rw [List.drop_eq_nil_of_le hi, ps_f]
theorem ps_0 {F : List Nat} {b : Nat} (h : F.length ≤ ps_k F) : ps_v F b = none := if_neg (by omega)
theorem ps_1 {F : List Nat} {b : Nat} (h : ps_k F < F.length) : ps_v F b = (ps_f b (ps_m F) (F.drop (ps_k F)) 0).map (fun v => if ps_n F then v else -v) := if_pos h
theorem by_at0 {F : List Nat} {f : Nat → Int32} (h : by_L F f) (hc : F.length < 2 ^ 31) {k : Nat} (hk : k < 256) (h0 : 0 < k) : by_at F 0 = nI k ↔ F.getD 0 0 = k := by
  rcases Nat.eq_zero_or_pos F.length with z | z
  · have : F = [] := List.length_eq_zero_iff.mp z
    subst this
    refine ⟨fun e => ?_, fun e => ?_⟩
    · exfalso
      have e2 : by_at [] (nI 0) = -1 := by_at_out (Nat.le_refl _) (by decide)
      rw [show (0 : Int32) = nI 0 from rfl, e2] at e
      exact nI_nm1 (c := k) (by omega) e.symm
    · simp at e; omega
  · rw [show (0 : Int32) = nI 0 from rfl, by_at_in z hc]
    exact nI_eq (by have := (h 0 z).1; omega) (by omega)
theorem lz_ne {b : Nat} (h : 2 ≤ b) (h2 : b ≤ 36) : (nI b).toInt64 ≠ 0 := fun z => by
  have := lz_b (b := b) (by omega)
  rw [z] at this
  have h3 : (0 : Int64).toInt = 0 := rfl
  omega
abbrev y_Tf_readNumber : MethodName := ⟨"TextForge", "readNumber", "(I)Z"⟩
abbrev w_Tf_readNumber : List Cond := Cond.code y_Tf_readNumber prog_1_method_21_code 12 (some .boolean) :: gw
theorem d_Tf_readNumber_0 : decode prog_1_method_21_code 0 = .ok (.aload_n 0, 1) := by decide +kernel
theorem d_Tf_readNumber_1 : decode prog_1_method_21_code 1 = .ok (.getfield 14, 3) := by decide +kernel
theorem d_Tf_readNumber_4 : decode prog_1_method_21_code 4 = .ok (.iconst 0, 1) := by decide +kernel
theorem d_Tf_readNumber_5 : decode prog_1_method_21_code 5 = .ok (.invokevirtual 92, 3) := by decide +kernel
theorem d_Tf_readNumber_8 : decode prog_1_method_21_code 8 = .ok (.istore_n 2, 1) := by decide +kernel
theorem d_Tf_readNumber_9 : decode prog_1_method_21_code 9 = .ok (.iload_n 2, 1) := by decide +kernel
theorem d_Tf_readNumber_10 : decode prog_1_method_21_code 10 = .ok (.bipush 43, 2) := by decide +kernel
theorem d_Tf_readNumber_12 : decode prog_1_method_21_code 12 = .ok (.if_icmp .eq 9, 3) := by decide +kernel
theorem d_Tf_readNumber_15 : decode prog_1_method_21_code 15 = .ok (.iload_n 2, 1) := by decide +kernel
theorem d_Tf_readNumber_16 : decode prog_1_method_21_code 16 = .ok (.bipush 45, 2) := by decide +kernel
theorem d_Tf_readNumber_18 : decode prog_1_method_21_code 18 = .ok (.if_icmp .ne 7, 3) := by decide +kernel
theorem d_Tf_readNumber_21 : decode prog_1_method_21_code 21 = .ok (.iconst 1, 1) := by decide +kernel
theorem d_Tf_readNumber_22 : decode prog_1_method_21_code 22 = .ok (.goto 4, 3) := by decide +kernel
theorem d_Tf_readNumber_25 : decode prog_1_method_21_code 25 = .ok (.iconst 0, 1) := by decide +kernel
theorem d_Tf_readNumber_26 : decode prog_1_method_21_code 26 = .ok (.istore_n 3, 1) := by decide +kernel
theorem d_Tf_readNumber_27 : decode prog_1_method_21_code 27 = .ok (.iload_n 1, 1) := by decide +kernel
theorem d_Tf_readNumber_28 : decode prog_1_method_21_code 28 = .ok (.iconst 2, 1) := by decide +kernel
theorem d_Tf_readNumber_29 : decode prog_1_method_21_code 29 = .ok (.if_icmp .lt 14, 3) := by decide +kernel
theorem d_Tf_readNumber_32 : decode prog_1_method_21_code 32 = .ok (.iload_n 3, 1) := by decide +kernel
theorem d_Tf_readNumber_33 : decode prog_1_method_21_code 33 = .ok (.aload_n 0, 1) := by decide +kernel
theorem d_Tf_readNumber_34 : decode prog_1_method_21_code 34 = .ok (.getfield 14, 3) := by decide +kernel
theorem d_Tf_readNumber_37 : decode prog_1_method_21_code 37 = .ok (.invokevirtual 53, 3) := by decide +kernel
theorem d_Tf_readNumber_40 : decode prog_1_method_21_code 40 = .ok (.if_icmp .lt 5, 3) := by decide +kernel
theorem d_Tf_readNumber_43 : decode prog_1_method_21_code 43 = .ok (.iconst 0, 1) := by decide +kernel
theorem d_Tf_readNumber_44 : decode prog_1_method_21_code 44 = .ok (.ireturn, 1) := by decide +kernel
theorem d_Tf_readNumber_45 : decode prog_1_method_21_code 45 = .ok (.iload_n 2, 1) := by decide +kernel
theorem d_Tf_readNumber_46 : decode prog_1_method_21_code 46 = .ok (.bipush 45, 2) := by decide +kernel
theorem d_Tf_readNumber_48 : decode prog_1_method_21_code 48 = .ok (.if_icmp .ne 9, 3) := by decide +kernel
theorem d_Tf_readNumber_51 : decode prog_1_method_21_code 51 = .ok (.ldc2_w 182, 3) := by decide +kernel
theorem d_Tf_readNumber_54 : decode prog_1_method_21_code 54 = .ok (.goto 6, 3) := by decide +kernel
theorem d_Tf_readNumber_57 : decode prog_1_method_21_code 57 = .ok (.ldc2_w 184, 3) := by decide +kernel
theorem d_Tf_readNumber_60 : decode prog_1_method_21_code 60 = .ok (.lstore 4, 2) := by decide +kernel
theorem d_Tf_readNumber_62 : decode prog_1_method_21_code 62 = .ok (.lload 4, 2) := by decide +kernel
theorem d_Tf_readNumber_64 : decode prog_1_method_21_code 64 = .ok (.iload_n 1, 1) := by decide +kernel
theorem d_Tf_readNumber_65 : decode prog_1_method_21_code 65 = .ok (.i2l, 1) := by decide +kernel
theorem d_Tf_readNumber_66 : decode prog_1_method_21_code 66 = .ok (.ldiv, 1) := by decide +kernel
theorem d_Tf_readNumber_67 : decode prog_1_method_21_code 67 = .ok (.lstore 6, 2) := by decide +kernel
theorem d_Tf_readNumber_69 : decode prog_1_method_21_code 69 = .ok (.lconst 0, 1) := by decide +kernel
theorem d_Tf_readNumber_70 : decode prog_1_method_21_code 70 = .ok (.lstore 8, 2) := by decide +kernel
theorem d_Tf_readNumber_72 : decode prog_1_method_21_code 72 = .ok (.iload_n 3, 1) := by decide +kernel
theorem d_Tf_readNumber_73 : decode prog_1_method_21_code 73 = .ok (.istore 10, 2) := by decide +kernel
theorem d_Tf_readNumber_75 : decode prog_1_method_21_code 75 = .ok (.iload 10, 2) := by decide +kernel
theorem d_Tf_readNumber_77 : decode prog_1_method_21_code 77 = .ok (.aload_n 0, 1) := by decide +kernel
theorem d_Tf_readNumber_78 : decode prog_1_method_21_code 78 = .ok (.getfield 14, 3) := by decide +kernel
theorem d_Tf_readNumber_81 : decode prog_1_method_21_code 81 = .ok (.invokevirtual 53, 3) := by decide +kernel
theorem d_Tf_readNumber_84 : decode prog_1_method_21_code 84 = .ok (.if_icmp .ge 73, 3) := by decide +kernel
theorem d_Tf_readNumber_87 : decode prog_1_method_21_code 87 = .ok (.aload_n 0, 1) := by decide +kernel
theorem d_Tf_readNumber_88 : decode prog_1_method_21_code 88 = .ok (.getfield 14, 3) := by decide +kernel
theorem d_Tf_readNumber_91 : decode prog_1_method_21_code 91 = .ok (.iload 10, 2) := by decide +kernel
theorem d_Tf_readNumber_93 : decode prog_1_method_21_code 93 = .ok (.invokevirtual 92, 3) := by decide +kernel
theorem d_Tf_readNumber_96 : decode prog_1_method_21_code 96 = .ok (.invokestatic 186, 3) := by decide +kernel
theorem d_Tf_readNumber_99 : decode prog_1_method_21_code 99 = .ok (.istore 11, 2) := by decide +kernel
theorem d_Tf_readNumber_101 : decode prog_1_method_21_code 101 = .ok (.iload 11, 2) := by decide +kernel
theorem d_Tf_readNumber_103 : decode prog_1_method_21_code 103 = .ok (.ifCond .lt 17, 3) := by decide +kernel
theorem d_Tf_readNumber_106 : decode prog_1_method_21_code 106 = .ok (.iload 11, 2) := by decide +kernel
theorem d_Tf_readNumber_108 : decode prog_1_method_21_code 108 = .ok (.iload_n 1, 1) := by decide +kernel
theorem d_Tf_readNumber_109 : decode prog_1_method_21_code 109 = .ok (.if_icmp .ge 11, 3) := by decide +kernel
theorem d_Tf_readNumber_112 : decode prog_1_method_21_code 112 = .ok (.lload 8, 2) := by decide +kernel
theorem d_Tf_readNumber_114 : decode prog_1_method_21_code 114 = .ok (.lload 6, 2) := by decide +kernel
theorem d_Tf_readNumber_116 : decode prog_1_method_21_code 116 = .ok (.lcmp, 1) := by decide +kernel
theorem d_Tf_readNumber_117 : decode prog_1_method_21_code 117 = .ok (.ifCond .ge 5, 3) := by decide +kernel
theorem d_Tf_readNumber_120 : decode prog_1_method_21_code 120 = .ok (.iconst 0, 1) := by decide +kernel
theorem d_Tf_readNumber_121 : decode prog_1_method_21_code 121 = .ok (.ireturn, 1) := by decide +kernel
theorem d_Tf_readNumber_122 : decode prog_1_method_21_code 122 = .ok (.lload 8, 2) := by decide +kernel
theorem d_Tf_readNumber_124 : decode prog_1_method_21_code 124 = .ok (.iload_n 1, 1) := by decide +kernel
theorem d_Tf_readNumber_125 : decode prog_1_method_21_code 125 = .ok (.i2l, 1) := by decide +kernel
theorem d_Tf_readNumber_126 : decode prog_1_method_21_code 126 = .ok (.lmul, 1) := by decide +kernel
theorem d_Tf_readNumber_127 : decode prog_1_method_21_code 127 = .ok (.lstore 8, 2) := by decide +kernel
theorem d_Tf_readNumber_129 : decode prog_1_method_21_code 129 = .ok (.lload 8, 2) := by decide +kernel
theorem d_Tf_readNumber_131 : decode prog_1_method_21_code 131 = .ok (.lload 4, 2) := by decide +kernel
theorem d_Tf_readNumber_133 : decode prog_1_method_21_code 133 = .ok (.iload 11, 2) := by decide +kernel
theorem d_Tf_readNumber_135 : decode prog_1_method_21_code 135 = .ok (.i2l, 1) := by decide +kernel
theorem d_Tf_readNumber_136 : decode prog_1_method_21_code 136 = .ok (.ladd, 1) := by decide +kernel
theorem d_Tf_readNumber_137 : decode prog_1_method_21_code 137 = .ok (.lcmp, 1) := by decide +kernel
theorem d_Tf_readNumber_138 : decode prog_1_method_21_code 138 = .ok (.ifCond .ge 5, 3) := by decide +kernel
theorem d_Tf_readNumber_141 : decode prog_1_method_21_code 141 = .ok (.iconst 0, 1) := by decide +kernel
theorem d_Tf_readNumber_142 : decode prog_1_method_21_code 142 = .ok (.ireturn, 1) := by decide +kernel
theorem d_Tf_readNumber_143 : decode prog_1_method_21_code 143 = .ok (.lload 8, 2) := by decide +kernel
theorem d_Tf_readNumber_145 : decode prog_1_method_21_code 145 = .ok (.iload 11, 2) := by decide +kernel
theorem d_Tf_readNumber_147 : decode prog_1_method_21_code 147 = .ok (.i2l, 1) := by decide +kernel
theorem d_Tf_readNumber_148 : decode prog_1_method_21_code 148 = .ok (.lsub, 1) := by decide +kernel
theorem d_Tf_readNumber_149 : decode prog_1_method_21_code 149 = .ok (.lstore 8, 2) := by decide +kernel
theorem d_Tf_readNumber_151 : decode prog_1_method_21_code 151 = .ok (.iinc 10 1, 3) := by decide +kernel
theorem d_Tf_readNumber_154 : decode prog_1_method_21_code 154 = .ok (.goto (-79), 3) := by decide +kernel
theorem d_Tf_readNumber_157 : decode prog_1_method_21_code 157 = .ok (.aload_n 0, 1) := by decide +kernel
theorem d_Tf_readNumber_158 : decode prog_1_method_21_code 158 = .ok (.iload_n 2, 1) := by decide +kernel
theorem d_Tf_readNumber_159 : decode prog_1_method_21_code 159 = .ok (.bipush 45, 2) := by decide +kernel
theorem d_Tf_readNumber_161 : decode prog_1_method_21_code 161 = .ok (.if_icmp .ne 8, 3) := by decide +kernel
theorem d_Tf_readNumber_164 : decode prog_1_method_21_code 164 = .ok (.lload 8, 2) := by decide +kernel
theorem d_Tf_readNumber_166 : decode prog_1_method_21_code 166 = .ok (.goto 6, 3) := by decide +kernel
theorem d_Tf_readNumber_169 : decode prog_1_method_21_code 169 = .ok (.lload 8, 2) := by decide +kernel
theorem d_Tf_readNumber_171 : decode prog_1_method_21_code 171 = .ok (.lneg, 1) := by decide +kernel
theorem d_Tf_readNumber_172 : decode prog_1_method_21_code 172 = .ok (.putfield 49, 3) := by decide +kernel
theorem d_Tf_readNumber_175 : decode prog_1_method_21_code 175 = .ok (.iconst 1, 1) := by decide +kernel
theorem d_Tf_readNumber_176 : decode prog_1_method_21_code 176 = .ok (.ireturn, 1) := by decide +kernel
set_option maxHeartbeats 4000000 in
set_option maxRecDepth 100000 in
theorem c_Tf_readNumber (l : Launch) (dC : Nat → ClassId) (dI : Nat → Nat → Nat) (tf hf hq hs hd hp hc : Nat) (ln : Int64) (rf : Nat) (cB : ClassId) (ff : Nat → Int32) (F : List Nat) (b : Nat) (hLf : by_L F ff) (hcf : F.length ≤ 4096) (hb2 : 2 ≤ b) (hb36 : b ≤ 36) : zM_i (S := Unit) l y_Tf_readNumber w_Tf_readNumber { frames := 1, cells := 0, slots := 0, locals := 21 } (dC, dI) vwCl [.ref tf, .int (nI b)] [(tf, .inr (7, [.ref hf, .ref hq, .ref hs, .ref hd, .ref hp, .ref hc, .long ln])), (hf, .inr (2, [.ref rf, .int (nI F.length)])), (rf, .inl (cB, 4096, .inl ff))] [(cB, .byte)] (fun (r : Int32) (u : Unit) => r = by_z (ps_v F b).isSome) (fun u => [(tf, .inr (7, [.ref hf, .ref hq, .ref hs, .ref hd, .ref hp, .ref hc, .long (ps_l ln (ps_v F b))])), (hf, .inr (2, [.ref rf, .int (nI F.length)])), (rf, .inl (cB, 4096, .inl ff))]) (fun u => [(cB, .byte)]) 0 0 := by
  refine zz_enteri (cc := prog_1_method_21_code) (nL := 12) (ret := (some .boolean)) (by decide) rfl (Nat.le_of_ble_eq_true rfl) ?_
  intro p e s m below meth c A ls C0 hA hS hP hK hD hl
  obtain ⟨hx, hb, hml, hown, hg, hr, hlocks, hin⟩ := C0
  have hown : s.vm.findClass "TextForge" = some m.cls := hown
  have hP : va_P (dC, dI) vwCl [(tf, .inr (7, [.ref hf, .ref hq, .ref hs, .ref hd, .ref hp, .ref hc, .long ln])), (hf, .inr (2, [.ref rf, .int (nI F.length)])), (rf, .inl (cB, 4096, .inl ff))] s.heap := hP
  have hK : va_K (dC, dI) vwCl [(cB, .byte)] s := hK
  have hD : va_D A [(tf, .inr (7, [.ref hf, .ref hq, .ref hs, .ref hd, .ref hp, .ref hc, .long ln])), (hf, .inr (2, [.ref rf, .int (nI F.length)])), (rf, .inl (cB, 4096, .inl ff))] := hD
  have hl : lv_has ls 12 [(0, .ref tf), (1, .int (nI b))] := hl
  refine lv_aload_n hx hb d_Tf_readNumber_0 rfl (lv_at hl 0 rfl) ?_
  refine va_get (D := (dC, dI)) (ci := 7) (v := .ref hf) (C := "TextForge") (T := TX7) (N := 7) hx hb hg iwX7 hown hK hP 0 rfl rfl 0 (by decide) (hg _ kw_131) (fun _ h9 => h9) rfl d_Tf_readNumber_1 ?_
  refine lv_iconst (v := 0) hx hb d_Tf_readNumber_4 (by decide) ?_
  have hPc := hP.sub (ws' := [(hf, .inr (2, [.ref rf, .int (nI F.length)])), (rf, .inl (cB, 4096, .inl ff))]) [1, 2] rfl
  have hKc := hK.sub (tys' := [(cB, .byte)]) [0] rfl
  refine vp_callSi (W.runV (As := [.int 0]) (rest := []) ⟨hx, hb, hml, hown, hg⟩ (c_By_at l dC dI hf rf cB 4096 ff F 0 hLf hcf (by decide)) (cwV 1 hg (gi_V kw_193 kw_194 kw_195 kw_2 kw_196) rfl rfl rfl (by decide +kernel) ⟨Nat.le_of_ble_eq_true rfl, Nat.le_of_ble_eq_true rfl⟩) (zz_prJV hPc hKc _ (q0 := 0) (ci := 2) rfl rfl) rfl rfl hl.1 rfl (lv_room (Nat.le_of_ble_eq_true rfl)) d_Tf_readNumber_5 ⟨Nat.le_of_ble_eq_true rfl, Nat.le_of_ble_eq_true rfl⟩) (fun r_1 hr_1 => ?_)
  subst hr_1
  refine lv_istore_n (lv' := [(2, .int (by_at F 0)), (0, .ref tf), (1, .int (nI b))]) hx hb d_Tf_readNumber_8 rfl hl (by decide) rfl (fun ls hl => ?_)
  refine lv_iload_n hx hb d_Tf_readNumber_9 rfl (lv_at hl 0 rfl) ?_
  refine lv_bipush (v := 43) hx hb d_Tf_readNumber_10 (by decide) ?_
  refine lv_icmp_eq (tgt := 21) hx hb d_Tf_readNumber_12 (by decide) (fun c_12 => ?_) (fun c_12 => ?_)
  · skip
    have hg0 : F.getD 0 0 = 43 := (by_at0 hLf (by omega) (k := 43) (by decide) (by decide)).mp c_12
    have hk : ps_k F = 1 := if_pos (Or.inl hg0)
    have hn : ps_n F = false := decide_eq_false (by rw [hg0]; decide)
    refine lv_iconst (v := 1) hx hb d_Tf_readNumber_21 (by decide) ?_
    refine lv_goto (tgt := 26) hx hb d_Tf_readNumber_22 (by decide) ?_
    refine lv_istore_n (lv' := [(3, .int 1), (2, .int (by_at F 0)), (0, .ref tf), (1, .int (nI b))]) hx hb d_Tf_readNumber_26 rfl hl (by decide) rfl (fun ls hl => ?_)
    refine lv_iload_n hx hb d_Tf_readNumber_27 rfl (lv_at hl 3 rfl) ?_
    refine lv_iconst (v := 2) hx hb d_Tf_readNumber_28 (by decide) ?_
    refine lv_icmp_lt (tgt := 43) hx hb d_Tf_readNumber_29 (by decide) (fun c9 => by first | exact absurd c9 (nI_nlt (b := 2) hb2 (by omega)) | exact absurd (nI_nlt (b := 2) hb2 (by omega)) c9) (fun _ => ?_)
    refine lv_iload_n hx hb d_Tf_readNumber_32 rfl (lv_at hl 0 rfl) ?_
    refine lv_aload_n hx hb d_Tf_readNumber_33 rfl (lv_at hl 2 rfl) ?_
    refine va_get (D := (dC, dI)) (ci := 7) (v := .ref hf) (C := "TextForge") (T := TX7) (N := 7) hx hb hg iwX7 hown hK hP 0 rfl rfl 0 (by decide) (hg _ kw_131) (fun _ h9 => h9) rfl d_Tf_readNumber_34 ?_
    have hPc := hP.sub (ws' := [(hf, .inr (2, [.ref rf, .int (nI F.length)]))]) [1] rfl
    have hKc := hK.sub (tys' := []) [] rfl
    refine vp_callSi (W.runV (As := []) (rest := [.int 1]) ⟨hx, hb, hml, hown, hg⟩ (c_By_length l dC dI hf (.ref rf) (nI F.length) ) (cwV 0 hg (gi_V kw_157 kw_158 kw_159 kw_2 kw_160) rfl rfl rfl (by decide +kernel) ⟨Nat.le_of_ble_eq_true rfl, Nat.le_of_ble_eq_true rfl⟩) (zz_prJV hPc hKc _ (q0 := 0) (ci := 2) rfl rfl) rfl rfl hl.1 rfl (lv_room (Nat.le_of_ble_eq_true rfl)) d_Tf_readNumber_37 ⟨Nat.le_of_ble_eq_true rfl, Nat.le_of_ble_eq_true rfl⟩) (fun r_2 hr_2 => ?_)
    subst hr_2
    refine lv_icmp_lt (tgt := 45) hx hb d_Tf_readNumber_40 (by decide) (fun c_40 => ?_) (fun c_40 => ?_)
    · skip
      have f_40 : ps_k F < F.length := by rw [hk]; exact (nI_ltI (a := 1) (by decide) (by omega)).mp c_40
      refine lv_iload_n hx hb d_Tf_readNumber_45 rfl (lv_at hl 1 rfl) ?_
      refine lv_bipush (v := 45) hx hb d_Tf_readNumber_46 (by decide) ?_
      refine lv_icmp_ne (tgt := 57) hx hb d_Tf_readNumber_48 (by decide) (fun _ => ?_) (fun c9 => by first | exact absurd c9 (by rw [c_12]; decide) | exact absurd (by rw [c_12]; decide) c9)
      refine W.ldc2 (v := (-9223372036854775807)) hx hb hown (hg _ kw_673) rfl d_Tf_readNumber_57 ?_
      refine W.eq (g2 := F0 m 60 ls [.long (-9223372036854775807)]) rfl ?_
      refine lv_topl (fun le0 ele0 => ?_)
      have hm : ps_m F = -9223372036854775807 := by unfold ps_m; rw [hn]; rfl
      have hle : le0.toInt = ps_m F := by rw [ele0, hm]; decide
      have hml0 : ps_m F ≤ 0 := by rw [hm]; decide
      have hmlo : -9223372036854775808 ≤ ps_m F := by rw [hm]; decide
      refine lv_lstore (lv' := [(4, .long le0), (3, .int 1), (2, .int (by_at F 0)), (0, .ref tf), (1, .int (nI b))]) hx hb d_Tf_readNumber_60 hl (by decide) rfl (fun ls hl => ?_)
      refine lv_lload hx hb d_Tf_readNumber_62 (lv_at hl 0 rfl) ?_
      refine lv_iload_n hx hb d_Tf_readNumber_64 rfl (lv_at hl 4 rfl) ?_
      refine lv_i2l hx hb d_Tf_readNumber_65 rfl ?_
      refine lv_ldiv hx hb d_Tf_readNumber_66 (lz_ne hb2 hb36) ?_
      refine lv_topl (fun lm elm => ?_)
      have hlm : lm.toInt = (ps_m F).tdiv b := by rw [elm]; exact lz_div hle (lz_b (by omega)) (by omega) hmlo hml0
      refine lv_lstore (lv' := [(6, .long lm), (4, .long le0), (3, .int 1), (2, .int (by_at F 0)), (0, .ref tf), (1, .int (nI b))]) hx hb d_Tf_readNumber_67 hl (by decide) rfl (fun ls hl => ?_)
      refine lv_lconst (v := 0) hx hb d_Tf_readNumber_69 (by decide) ?_
      refine lv_lstore (lv' := [(8, .long 0), (6, .long lm), (4, .long le0), (3, .int 1), (2, .int (by_at F 0)), (0, .ref tf), (1, .int (nI b))]) hx hb d_Tf_readNumber_70 hl (by decide) rfl (fun ls hl => ?_)
      refine lv_iload_n hx hb d_Tf_readNumber_72 rfl (lv_at hl 3 rfl) ?_
      refine lv_istore (lv' := [(10, .int 1), (8, .long 0), (6, .long lm), (4, .long le0), (3, .int 1), (2, .int (by_at F 0)), (0, .ref tf), (1, .int (nI b))]) hx hb d_Tf_readNumber_73 hl (by decide) rfl (fun ls hl => ?_)
      refine zz_loop (fun (x : Int64 × Nat) H locs ls => match x with | (x, i) => va_P (dC, dI) vwCl [(tf, .inr (7, [.ref hf, .ref hq, .ref hs, .ref hd, .ref hp, .ref hc, .long ln])), (hf, .inr (2, [.ref rf, .int (nI F.length)])), (rf, .inl (cB, 4096, .inl ff))] H ∧ va_D A [(tf, .inr (7, [.ref hf, .ref hq, .ref hs, .ref hd, .ref hp, .ref hc, .long ln])), (hf, .inr (2, [.ref rf, .int (nI F.length)])), (rf, .inl (cB, 4096, .inl ff))] ∧ va_S A s.heap H locs ∧ lv_has ls 12 [(0, .ref tf), (1, .int (nI b)), (2, .int (by_at F 0)), (3, .int 1), (4, .long le0), (6, .long lm), (8, .long x), (10, .int (nI i))] ∧ ps_f b (ps_m F) (F.drop (ps_k F)) 0 = ps_f b (ps_m F) (F.drop i) x.toInt ∧ ps_m F ≤ x.toInt ∧ x.toInt ≤ 0 ∧ i ≤ F.length) (fun x => match x with | (x, i) => F.length - i) ?_ ((0 : Int64), 1) ⟨hP.sub [0, 1, 2] rfl, hD.sub [0, 1, 2] (by decide) rfl, hS, lv_sub hl [6, 7, 5, 4, 3, 2, 1, 0] rfl, (by rw [hk]; rfl), (by rw [show (0 : Int64).toInt = 0 from rfl]; exact hml0), (by decide), (by rw [hk] at f_40; omega)⟩
      intro x H locs ls hI ih_75
      obtain ⟨x, i⟩ := x
      try dsimp only at hI
      obtain ⟨hP, hD, hS, hl, hI, hxl, hx0, hil⟩ := hI
      refine lv_iload hx hb d_Tf_readNumber_75 (lv_at hl 7 rfl) ?_
      refine lv_aload_n hx hb d_Tf_readNumber_77 rfl (lv_at hl 0 rfl) ?_
      refine va_get (D := (dC, dI)) (ci := 7) (v := .ref hf) (C := "TextForge") (T := TX7) (N := 7) hx hb hg iwX7 hown hK hP 0 rfl rfl 0 (by decide) (hg _ kw_131) (fun _ h9 => h9) rfl d_Tf_readNumber_78 ?_
      have hPc := hP.sub (ws' := [(hf, .inr (2, [.ref rf, .int (nI F.length)]))]) [1] rfl
      have hKc := hK.sub (tys' := []) [] rfl
      refine vp_callSi (W.runV (As := []) (rest := [.int (nI i)]) ⟨hx, hb, hml, hown, hg⟩ (c_By_length l dC dI hf (.ref rf) (nI F.length) ) (cwV 0 hg (gi_V kw_157 kw_158 kw_159 kw_2 kw_160) rfl rfl rfl (by decide +kernel) ⟨Nat.le_of_ble_eq_true rfl, Nat.le_of_ble_eq_true rfl⟩) (zz_prJV hPc hKc _ (q0 := 0) (ci := 2) rfl rfl) rfl rfl hl.1 rfl (lv_room (Nat.le_of_ble_eq_true rfl)) d_Tf_readNumber_81 ⟨Nat.le_of_ble_eq_true rfl, Nat.le_of_ble_eq_true rfl⟩) (fun r_3 hr_3 => ?_)
      subst hr_3
      refine lv_icmp_ge (tgt := 157) hx hb d_Tf_readNumber_84 (by decide) (fun c_84 => ?_) (fun c_84 => ?_)
      · skip
        have f_84 : F.length ≤ i := (nI_leI (by omega) (by omega)).mp c_84
        rw [ps_end f_84] at hI
        refine lv_aload_n hx hb d_Tf_readNumber_157 rfl (lv_at hl 0 rfl) ?_
        refine lv_iload_n hx hb d_Tf_readNumber_158 rfl (lv_at hl 2 rfl) ?_
        refine lv_bipush (v := 45) hx hb d_Tf_readNumber_159 (by decide) ?_
        refine lv_icmp_ne (tgt := 169) hx hb d_Tf_readNumber_161 (by decide) (fun _ => ?_) (fun c9 => by first | exact absurd c9 (by rw [c_12]; decide) | exact absurd (by rw [c_12]; decide) c9)
        refine lv_lload hx hb d_Tf_readNumber_169 (lv_at hl 6 rfl) ?_
        refine lv_lneg hx hb d_Tf_readNumber_171 ?_
        refine lv_topl (fun y0 ey0 => ?_)
        have hso : ps_v F b = some y0.toInt := by rw [ps_1 f_40, hI, hn, ey0, lz_neg rfl (by omega) (by omega)]; rfl
        refine va_put (D := (dC, dI)) (ci := 7) (v := .long y0) (ty := .long) (C := "TextForge") (T := TX7) (N := 7) hx hb hg iwX7 tyX7 tyX7_ok nmX7 hown hK hP hD hS 0 rfl rfl 6 (by decide) (hg _ kw_137) (fun _ h9 => h9) rfl (by decide +kernel) rfl rfl (Nat.le_of_ble_eq_true rfl) d_Tf_readNumber_172 (fun H locs hP hD hS => ?_)
        have hP : va_P (dC, dI) vwCl [(tf, .inr (7, [.ref hf, .ref hq, .ref hs, .ref hd, .ref hp, .ref hc, .long y0])), (hf, .inr (2, [.ref rf, .int (nI F.length)])), (rf, .inl (cB, 4096, .inl ff))] H := hP
        have hD : va_D A [(tf, .inr (7, [.ref hf, .ref hq, .ref hs, .ref hd, .ref hp, .ref hc, .long y0])), (hf, .inr (2, [.ref rf, .int (nI F.length)])), (rf, .inl (cB, 4096, .inl ff))] := hD
        refine lv_iconst (v := 1) hx hb d_Tf_readNumber_175 (by decide) ?_
        have hP9 := hP.sub (ws' := [(tf, .inr (7, [.ref hf, .ref hq, .ref hs, .ref hd, .ref hp, .ref hc, .long y0])), (hf, .inr (2, [.ref rf, .int (nI F.length)])), (rf, .inl (cB, 4096, .inl ff))]) [0, 1, 2] rfl
        have hD9 := hD.sub (ws' := [(tf, .inr (7, [.ref hf, .ref hq, .ref hs, .ref hd, .ref hp, .ref hc, .long y0])), (hf, .inr (2, [.ref rf, .int (nI F.length)])), (rf, .inl (cB, 4096, .inl ff))]) [0, 1, 2] (by decide) rfl
        have hK9 := hK.sub (tys' := [(cB, .byte)]) [0] rfl
        rw [show Value.long y0 = Value.long (ps_l ln (ps_v F b)) by rw [hso, ps_l, ← lz_of rfl]] at hP9 hD9
        exact zz_zret hx hb hr hlocks d_Tf_readNumber_176 (by decide) hS (by first | exact Nat.le_refl _ | decide | omega | (dsimp only; omega)) (by first | exact Nat.le_refl _ | decide | omega | (dsimp only; omega)) () (by rw [hso]; rfl) hP9 hK9 hD9
      · skip
        have f_84 : i < F.length := Nat.lt_of_not_le (fun z => c_84 (nI_le z (by omega)))
        refine lv_aload_n hx hb d_Tf_readNumber_87 rfl (lv_at hl 0 rfl) ?_
        refine va_get (D := (dC, dI)) (ci := 7) (v := .ref hf) (C := "TextForge") (T := TX7) (N := 7) hx hb hg iwX7 hown hK hP 0 rfl rfl 0 (by decide) (hg _ kw_131) (fun _ h9 => h9) rfl d_Tf_readNumber_88 ?_
        refine lv_iload hx hb d_Tf_readNumber_91 (lv_at hl 7 rfl) ?_
        have hPc := hP.sub (ws' := [(hf, .inr (2, [.ref rf, .int (nI F.length)])), (rf, .inl (cB, 4096, .inl ff))]) [1, 2] rfl
        have hKc := hK.sub (tys' := [(cB, .byte)]) [0] rfl
        refine vp_callSi (W.runV (As := [.int (nI i)]) (rest := []) ⟨hx, hb, hml, hown, hg⟩ (c_By_at l dC dI hf rf cB 4096 ff F (nI i) hLf hcf (by decide)) (cwV 1 hg (gi_V kw_193 kw_194 kw_195 kw_2 kw_196) rfl rfl rfl (by decide +kernel) ⟨Nat.le_of_ble_eq_true rfl, Nat.le_of_ble_eq_true rfl⟩) (zz_prJV hPc hKc _ (q0 := 0) (ci := 2) rfl rfl) rfl rfl hl.1 rfl (lv_room (Nat.le_of_ble_eq_true rfl)) d_Tf_readNumber_93 ⟨Nat.le_of_ble_eq_true rfl, Nat.le_of_ble_eq_true rfl⟩) (fun r_4 hr_4 => ?_)
        rw [by_at_in f_84 (by omega)] at hr_4
        subst hr_4
        have hPc := hP.sub (ws' := []) [] rfl
        have hKc := hK.sub (tys' := []) [] rfl
        refine vp_callSi (W.runS (As := [.int (nI (F.getD i 0))]) (rest := []) ⟨hx, hb, hml, hown, hg⟩ (c_Tf_digitOf l dC dI (nI (F.getD i 0)) ) (va_cwS 1 hg (gi_S kw_674 kw_675 kw_1 kw_676) rfl rfl rfl (by decide +kernel) ⟨Nat.le_of_ble_eq_true rfl, Nat.le_of_ble_eq_true rfl⟩) (zz_prJS hPc hKc _) rfl rfl hl.1 rfl (lv_room (Nat.le_of_ble_eq_true rfl)) d_Tf_readNumber_96 ⟨Nat.le_of_ble_eq_true rfl, Nat.le_of_ble_eq_true rfl⟩) (fun r_5 hr_5 => ?_)
        rw [dg_n _ (hLf i f_84).1] at hr_5
        rcases dgN_r (F.getD i 0) with hdg | hdg
        · skip
          rw [if_pos hdg] at hr_5
          subst hr_5
          refine lv_istore (lv' := [(11, .int (nI (dgN (F.getD i 0)))), (0, .ref tf), (1, .int (nI b)), (2, .int (by_at F 0)), (3, .int 1), (4, .long le0), (6, .long lm), (8, .long x), (10, .int (nI i))]) hx hb d_Tf_readNumber_99 hl (by decide) rfl (fun ls hl => ?_)
          refine lv_iload hx hb d_Tf_readNumber_101 (lv_at hl 0 rfl) ?_
          refine lv_if_lt (tgt := 120) hx hb d_Tf_readNumber_103 (by decide) (fun c9 => by first | exact absurd c9 (nI_pos (by omega)) | exact absurd (nI_pos (by omega)) c9) (fun _ => ?_)
          refine lv_iload hx hb d_Tf_readNumber_106 (lv_at hl 0 rfl) ?_
          refine lv_iload_n hx hb d_Tf_readNumber_108 rfl (lv_at hl 2 rfl) ?_
          refine lv_icmp_ge (tgt := 120) hx hb d_Tf_readNumber_109 (by decide) (fun c_109 => ?_) (fun c_109 => ?_)
          · skip
            have f_109 : b ≤ dgN (F.getD i 0) := (nI_leI (by omega) (by omega)).mp c_109
            have hno : ps_v F b = none := by rw [ps_1 f_40, hI, ps_no f_84 (by omega)]; rfl
            refine lv_iconst (v := 0) hx hb d_Tf_readNumber_120 (by decide) ?_
            have hP9 := hP.sub (ws' := [(tf, .inr (7, [.ref hf, .ref hq, .ref hs, .ref hd, .ref hp, .ref hc, .long ln])), (hf, .inr (2, [.ref rf, .int (nI F.length)])), (rf, .inl (cB, 4096, .inl ff))]) [0, 1, 2] rfl
            have hD9 := hD.sub (ws' := [(tf, .inr (7, [.ref hf, .ref hq, .ref hs, .ref hd, .ref hp, .ref hc, .long ln])), (hf, .inr (2, [.ref rf, .int (nI F.length)])), (rf, .inl (cB, 4096, .inl ff))]) [0, 1, 2] (by decide) rfl
            have hK9 := hK.sub (tys' := [(cB, .byte)]) [0] rfl
            rw [show Value.long ln = Value.long (ps_l ln (ps_v F b)) by rw [hno]; rfl] at hP9 hD9
            exact zz_zret hx hb hr hlocks d_Tf_readNumber_121 (by decide) hS (by first | exact Nat.le_refl _ | decide | omega | (dsimp only; omega)) (by first | exact Nat.le_refl _ | decide | omega | (dsimp only; omega)) () (by rw [hno]; rfl) hP9 hK9 hD9
          · skip
            have f_109 : dgN (F.getD i 0) < b := Nat.lt_of_not_le (fun z => c_109 (nI_le z (by omega)))
            refine lv_lload hx hb d_Tf_readNumber_112 (lv_at hl 7 rfl) ?_
            refine lv_lload hx hb d_Tf_readNumber_114 (lv_at hl 6 rfl) ?_
            refine W.lcmp hx hb d_Tf_readNumber_116 ?_
            refine lv_if_ge (tgt := 122) hx hb d_Tf_readNumber_117 (by decide) (fun c_117 => ?_) (fun c_117 => ?_)
            · skip
              have f_117 : (ps_m F).tdiv b ≤ x.toInt := by rw [lg_cmp_ge, Int64.le_iff_toInt_le, hlm] at c_117; exact c_117
              have hmb := ps_hi hb2 hml0 f_117
              have hmc : x.toInt * b ≤ 0 := Int.mul_nonpos_of_nonpos_of_nonneg hx0 (by omega)
              refine lv_lload hx hb d_Tf_readNumber_122 (lv_at hl 7 rfl) ?_
              refine lv_iload_n hx hb d_Tf_readNumber_124 rfl (lv_at hl 2 rfl) ?_
              refine lv_i2l hx hb d_Tf_readNumber_125 rfl ?_
              refine lv_lmul hx hb d_Tf_readNumber_126 ?_
              refine lv_topl (fun x2 ex2 => ?_)
              have hx2v : x2.toInt = x.toInt * b := by rw [ex2]; exact lz_mul rfl (lz_b (by omega)) (by omega) (by omega)
              refine lv_lstore (lv' := [(8, .long x2), (11, .int (nI (dgN (F.getD i 0)))), (0, .ref tf), (1, .int (nI b)), (2, .int (by_at F 0)), (3, .int 1), (4, .long le0), (6, .long lm), (10, .int (nI i))]) hx hb d_Tf_readNumber_127 hl (by decide) rfl (fun ls hl => ?_)
              refine lv_lload hx hb d_Tf_readNumber_129 (lv_at hl 0 rfl) ?_
              refine lv_lload hx hb d_Tf_readNumber_131 (lv_at hl 6 rfl) ?_
              refine lv_iload hx hb d_Tf_readNumber_133 (lv_at hl 1 rfl) ?_
              refine lv_i2l hx hb d_Tf_readNumber_135 rfl ?_
              refine lv_ladd hx hb d_Tf_readNumber_136 ?_
              refine W.lcmp hx hb d_Tf_readNumber_137 ?_
              refine lv_if_ge (tgt := 143) hx hb d_Tf_readNumber_138 (by decide) (fun c_138 => ?_) (fun c_138 => ?_)
              · skip
                have f_138 : ps_m F ≤ x.toInt * b - dgN (F.getD i 0) := by rw [lg_cmp_ge, Int64.le_iff_toInt_le, lz_add hle (lz_b (b := dgN (F.getD i 0)) (by omega)) (by omega) (by omega), hx2v] at c_138; omega
                refine lv_lload hx hb d_Tf_readNumber_143 (lv_at hl 0 rfl) ?_
                refine lv_iload hx hb d_Tf_readNumber_145 (lv_at hl 1 rfl) ?_
                refine lv_i2l hx hb d_Tf_readNumber_147 rfl ?_
                refine lv_lsub hx hb d_Tf_readNumber_148 ?_
                refine lv_topl (fun x3 ex3 => ?_)
                have hx3v : x3.toInt = x.toInt * b - dgN (F.getD i 0) := by rw [ex3]; exact lz_sub hx2v (lz_b (by omega)) (by omega) (by omega)
                have hI2 : ps_f b (ps_m F) (F.drop (ps_k F)) 0 = ps_f b (ps_m F) (F.drop (i + 1)) x3.toInt := by rw [hI, ps_yes f_84 f_109 f_138, hx3v]
                have hx2 : ps_m F ≤ x3.toInt := by rw [hx3v]; exact f_138
                have hx3 : x3.toInt ≤ 0 := by rw [hx3v]; omega
                refine lv_lstore (lv' := [(8, .long x3), (11, .int (nI (dgN (F.getD i 0)))), (0, .ref tf), (1, .int (nI b)), (2, .int (by_at F 0)), (3, .int 1), (4, .long le0), (6, .long lm), (10, .int (nI i))]) hx hb d_Tf_readNumber_149 hl (by decide) rfl (fun ls hl => ?_)
                refine lv_iinc (v := (nI i) + 1) (lv' := [(10, .int ((nI i) + 1)), (8, .long x3), (11, .int (nI (dgN (F.getD i 0)))), (0, .ref tf), (1, .int (nI b)), (2, .int (by_at F 0)), (3, .int 1), (4, .long le0), (6, .long lm)]) hx hb d_Tf_readNumber_151 hl (k := 8) rfl rfl (by decide) rfl (fun ls hl => ?_)
                refine lv_goto (tgt := 75) hx hb d_Tf_readNumber_154 (by decide) ?_
                rw [nI_1] at hl
                exact ih_75 (x3, i + 1) H locs ls ⟨hP.sub [0, 1, 2] rfl, hD.sub [0, 1, 2] (by decide) rfl, hS, lv_sub hl [3, 4, 5, 6, 7, 8, 1, 0] rfl, hI2, hx2, hx3, f_84⟩ (by dsimp only; omega)
              · skip
                have f_138 : ¬ ps_m F ≤ x.toInt * b - dgN (F.getD i 0) := by rw [lg_cmp_ge, Int64.le_iff_toInt_le, lz_add hle (lz_b (b := dgN (F.getD i 0)) (by omega)) (by omega) (by omega), hx2v] at c_138; omega
                have hno : ps_v F b = none := by rw [ps_1 f_40, hI, ps_no f_84 (fun z => f_138 z.2)]; rfl
                refine lv_iconst (v := 0) hx hb d_Tf_readNumber_141 (by decide) ?_
                have hP9 := hP.sub (ws' := [(tf, .inr (7, [.ref hf, .ref hq, .ref hs, .ref hd, .ref hp, .ref hc, .long ln])), (hf, .inr (2, [.ref rf, .int (nI F.length)])), (rf, .inl (cB, 4096, .inl ff))]) [0, 1, 2] rfl
                have hD9 := hD.sub (ws' := [(tf, .inr (7, [.ref hf, .ref hq, .ref hs, .ref hd, .ref hp, .ref hc, .long ln])), (hf, .inr (2, [.ref rf, .int (nI F.length)])), (rf, .inl (cB, 4096, .inl ff))]) [0, 1, 2] (by decide) rfl
                have hK9 := hK.sub (tys' := [(cB, .byte)]) [0] rfl
                rw [show Value.long ln = Value.long (ps_l ln (ps_v F b)) by rw [hno]; rfl] at hP9 hD9
                exact zz_zret hx hb hr hlocks d_Tf_readNumber_142 (by decide) hS (by first | exact Nat.le_refl _ | decide | omega | (dsimp only; omega)) (by first | exact Nat.le_refl _ | decide | omega | (dsimp only; omega)) () (by rw [hno]; rfl) hP9 hK9 hD9
            · skip
              have f_117 : x.toInt < (ps_m F).tdiv b := by rw [lg_cmp_ge, Int64.le_iff_toInt_le, hlm] at c_117; omega
              have hlo := ps_lo hb2 hml0 f_117
              have hno : ps_v F b = none := by rw [ps_1 f_40, hI, ps_no f_84 (by omega)]; rfl
              refine lv_iconst (v := 0) hx hb d_Tf_readNumber_120 (by decide) ?_
              have hP9 := hP.sub (ws' := [(tf, .inr (7, [.ref hf, .ref hq, .ref hs, .ref hd, .ref hp, .ref hc, .long ln])), (hf, .inr (2, [.ref rf, .int (nI F.length)])), (rf, .inl (cB, 4096, .inl ff))]) [0, 1, 2] rfl
              have hD9 := hD.sub (ws' := [(tf, .inr (7, [.ref hf, .ref hq, .ref hs, .ref hd, .ref hp, .ref hc, .long ln])), (hf, .inr (2, [.ref rf, .int (nI F.length)])), (rf, .inl (cB, 4096, .inl ff))]) [0, 1, 2] (by decide) rfl
              have hK9 := hK.sub (tys' := [(cB, .byte)]) [0] rfl
              rw [show Value.long ln = Value.long (ps_l ln (ps_v F b)) by rw [hno]; rfl] at hP9 hD9
              exact zz_zret hx hb hr hlocks d_Tf_readNumber_121 (by decide) hS (by first | exact Nat.le_refl _ | decide | omega | (dsimp only; omega)) (by first | exact Nat.le_refl _ | decide | omega | (dsimp only; omega)) () (by rw [hno]; rfl) hP9 hK9 hD9
        · skip
          rw [if_neg (by omega)] at hr_5
          subst hr_5
          have hno : ps_v F b = none := by rw [ps_1 f_40, hI, ps_no f_84 (by omega)]; rfl
          refine lv_istore (lv' := [(11, .int (-1)), (0, .ref tf), (1, .int (nI b)), (2, .int (by_at F 0)), (3, .int 1), (4, .long le0), (6, .long lm), (8, .long x), (10, .int (nI i))]) hx hb d_Tf_readNumber_99 hl (by decide) rfl (fun ls hl => ?_)
          refine lv_iload hx hb d_Tf_readNumber_101 (lv_at hl 0 rfl) ?_
          refine lv_if_lt (tgt := 120) hx hb d_Tf_readNumber_103 (by decide) (fun _ => ?_) (fun c9 => by first | exact absurd c9 (by decide) | exact absurd (by decide) c9)
          refine lv_iconst (v := 0) hx hb d_Tf_readNumber_120 (by decide) ?_
          have hP9 := hP.sub (ws' := [(tf, .inr (7, [.ref hf, .ref hq, .ref hs, .ref hd, .ref hp, .ref hc, .long ln])), (hf, .inr (2, [.ref rf, .int (nI F.length)])), (rf, .inl (cB, 4096, .inl ff))]) [0, 1, 2] rfl
          have hD9 := hD.sub (ws' := [(tf, .inr (7, [.ref hf, .ref hq, .ref hs, .ref hd, .ref hp, .ref hc, .long ln])), (hf, .inr (2, [.ref rf, .int (nI F.length)])), (rf, .inl (cB, 4096, .inl ff))]) [0, 1, 2] (by decide) rfl
          have hK9 := hK.sub (tys' := [(cB, .byte)]) [0] rfl
          rw [show Value.long ln = Value.long (ps_l ln (ps_v F b)) by rw [hno]; rfl] at hP9 hD9
          exact zz_zret hx hb hr hlocks d_Tf_readNumber_121 (by decide) hS (by first | exact Nat.le_refl _ | decide | omega | (dsimp only; omega)) (by first | exact Nat.le_refl _ | decide | omega | (dsimp only; omega)) () (by rw [hno]; rfl) hP9 hK9 hD9
    · skip
      have f_40 : F.length ≤ ps_k F := by rw [hk]; exact Nat.le_of_not_lt (fun z => c_40 (nI_lt (a := 1) z (by omega)))
      have hno : ps_v F b = none := ps_0 f_40
      refine lv_iconst (v := 0) hx hb d_Tf_readNumber_43 (by decide) ?_
      have hP9 := hP.sub (ws' := [(tf, .inr (7, [.ref hf, .ref hq, .ref hs, .ref hd, .ref hp, .ref hc, .long ln])), (hf, .inr (2, [.ref rf, .int (nI F.length)])), (rf, .inl (cB, 4096, .inl ff))]) [0, 1, 2] rfl
      have hD9 := hD.sub (ws' := [(tf, .inr (7, [.ref hf, .ref hq, .ref hs, .ref hd, .ref hp, .ref hc, .long ln])), (hf, .inr (2, [.ref rf, .int (nI F.length)])), (rf, .inl (cB, 4096, .inl ff))]) [0, 1, 2] (by decide) rfl
      have hK9 := hK.sub (tys' := [(cB, .byte)]) [0] rfl
      rw [show Value.long ln = Value.long (ps_l ln (ps_v F b)) by rw [hno]; rfl] at hP9 hD9
      exact zz_zret hx hb hr hlocks d_Tf_readNumber_44 (by decide) hS (by first | exact Nat.le_refl _ | decide | omega | (dsimp only; omega)) (by first | exact Nat.le_refl _ | decide | omega | (dsimp only; omega)) () (by rw [hno]; rfl) hP9 hK9 hD9
  · skip
    have hg3 : ¬ F.getD 0 0 = 43 := fun z => c_12 ((by_at0 hLf (by omega) (k := 43) (by decide) (by decide)).mpr z)
    refine lv_iload_n hx hb d_Tf_readNumber_15 rfl (lv_at hl 0 rfl) ?_
    refine lv_bipush (v := 45) hx hb d_Tf_readNumber_16 (by decide) ?_
    refine lv_icmp_ne (tgt := 25) hx hb d_Tf_readNumber_18 (by decide) (fun c_18 => ?_) (fun c_18 => ?_)
    · skip
      have hg0 : ¬ F.getD 0 0 = 45 := fun z => c_18 ((by_at0 hLf (by omega) (k := 45) (by decide) (by decide)).mpr z)
      have hk : ps_k F = 0 := if_neg (fun z => z.elim hg3 hg0)
      have hn : ps_n F = false := decide_eq_false hg0
      refine lv_iconst (v := 0) hx hb d_Tf_readNumber_25 (by decide) ?_
      refine lv_istore_n (lv' := [(3, .int 0), (2, .int (by_at F 0)), (0, .ref tf), (1, .int (nI b))]) hx hb d_Tf_readNumber_26 rfl hl (by decide) rfl (fun ls hl => ?_)
      refine lv_iload_n hx hb d_Tf_readNumber_27 rfl (lv_at hl 3 rfl) ?_
      refine lv_iconst (v := 2) hx hb d_Tf_readNumber_28 (by decide) ?_
      refine lv_icmp_lt (tgt := 43) hx hb d_Tf_readNumber_29 (by decide) (fun c9 => by first | exact absurd c9 (nI_nlt (b := 2) hb2 (by omega)) | exact absurd (nI_nlt (b := 2) hb2 (by omega)) c9) (fun _ => ?_)
      refine lv_iload_n hx hb d_Tf_readNumber_32 rfl (lv_at hl 0 rfl) ?_
      refine lv_aload_n hx hb d_Tf_readNumber_33 rfl (lv_at hl 2 rfl) ?_
      refine va_get (D := (dC, dI)) (ci := 7) (v := .ref hf) (C := "TextForge") (T := TX7) (N := 7) hx hb hg iwX7 hown hK hP 0 rfl rfl 0 (by decide) (hg _ kw_131) (fun _ h9 => h9) rfl d_Tf_readNumber_34 ?_
      have hPc := hP.sub (ws' := [(hf, .inr (2, [.ref rf, .int (nI F.length)]))]) [1] rfl
      have hKc := hK.sub (tys' := []) [] rfl
      refine vp_callSi (W.runV (As := []) (rest := [.int 0]) ⟨hx, hb, hml, hown, hg⟩ (c_By_length l dC dI hf (.ref rf) (nI F.length) ) (cwV 0 hg (gi_V kw_157 kw_158 kw_159 kw_2 kw_160) rfl rfl rfl (by decide +kernel) ⟨Nat.le_of_ble_eq_true rfl, Nat.le_of_ble_eq_true rfl⟩) (zz_prJV hPc hKc _ (q0 := 0) (ci := 2) rfl rfl) rfl rfl hl.1 rfl (lv_room (Nat.le_of_ble_eq_true rfl)) d_Tf_readNumber_37 ⟨Nat.le_of_ble_eq_true rfl, Nat.le_of_ble_eq_true rfl⟩) (fun r_6 hr_6 => ?_)
      subst hr_6
      refine lv_icmp_lt (tgt := 45) hx hb d_Tf_readNumber_40 (by decide) (fun c_40 => ?_) (fun c_40 => ?_)
      · skip
        have f_40 : ps_k F < F.length := by rw [hk]; exact (nI_ltI (a := 0) (by decide) (by omega)).mp c_40
        refine lv_iload_n hx hb d_Tf_readNumber_45 rfl (lv_at hl 1 rfl) ?_
        refine lv_bipush (v := 45) hx hb d_Tf_readNumber_46 (by decide) ?_
        refine lv_icmp_ne (tgt := 57) hx hb d_Tf_readNumber_48 (by decide) (fun _ => ?_) (fun c9 => by first | exact absurd c9 c_18 | exact absurd c_18 c9)
        refine W.ldc2 (v := (-9223372036854775807)) hx hb hown (hg _ kw_673) rfl d_Tf_readNumber_57 ?_
        refine W.eq (g2 := F0 m 60 ls [.long (-9223372036854775807)]) rfl ?_
        refine lv_topl (fun le0 ele0 => ?_)
        have hm : ps_m F = -9223372036854775807 := by unfold ps_m; rw [hn]; rfl
        have hle : le0.toInt = ps_m F := by rw [ele0, hm]; decide
        have hml0 : ps_m F ≤ 0 := by rw [hm]; decide
        have hmlo : -9223372036854775808 ≤ ps_m F := by rw [hm]; decide
        refine lv_lstore (lv' := [(4, .long le0), (3, .int 0), (2, .int (by_at F 0)), (0, .ref tf), (1, .int (nI b))]) hx hb d_Tf_readNumber_60 hl (by decide) rfl (fun ls hl => ?_)
        refine lv_lload hx hb d_Tf_readNumber_62 (lv_at hl 0 rfl) ?_
        refine lv_iload_n hx hb d_Tf_readNumber_64 rfl (lv_at hl 4 rfl) ?_
        refine lv_i2l hx hb d_Tf_readNumber_65 rfl ?_
        refine lv_ldiv hx hb d_Tf_readNumber_66 (lz_ne hb2 hb36) ?_
        refine lv_topl (fun lm elm => ?_)
        have hlm : lm.toInt = (ps_m F).tdiv b := by rw [elm]; exact lz_div hle (lz_b (by omega)) (by omega) hmlo hml0
        refine lv_lstore (lv' := [(6, .long lm), (4, .long le0), (3, .int 0), (2, .int (by_at F 0)), (0, .ref tf), (1, .int (nI b))]) hx hb d_Tf_readNumber_67 hl (by decide) rfl (fun ls hl => ?_)
        refine lv_lconst (v := 0) hx hb d_Tf_readNumber_69 (by decide) ?_
        refine lv_lstore (lv' := [(8, .long 0), (6, .long lm), (4, .long le0), (3, .int 0), (2, .int (by_at F 0)), (0, .ref tf), (1, .int (nI b))]) hx hb d_Tf_readNumber_70 hl (by decide) rfl (fun ls hl => ?_)
        refine lv_iload_n hx hb d_Tf_readNumber_72 rfl (lv_at hl 3 rfl) ?_
        refine lv_istore (lv' := [(10, .int 0), (8, .long 0), (6, .long lm), (4, .long le0), (3, .int 0), (2, .int (by_at F 0)), (0, .ref tf), (1, .int (nI b))]) hx hb d_Tf_readNumber_73 hl (by decide) rfl (fun ls hl => ?_)
        refine zz_loop (fun (x : Int64 × Nat) H locs ls => match x with | (x, i) => va_P (dC, dI) vwCl [(tf, .inr (7, [.ref hf, .ref hq, .ref hs, .ref hd, .ref hp, .ref hc, .long ln])), (hf, .inr (2, [.ref rf, .int (nI F.length)])), (rf, .inl (cB, 4096, .inl ff))] H ∧ va_D A [(tf, .inr (7, [.ref hf, .ref hq, .ref hs, .ref hd, .ref hp, .ref hc, .long ln])), (hf, .inr (2, [.ref rf, .int (nI F.length)])), (rf, .inl (cB, 4096, .inl ff))] ∧ va_S A s.heap H locs ∧ lv_has ls 12 [(0, .ref tf), (1, .int (nI b)), (2, .int (by_at F 0)), (3, .int 0), (4, .long le0), (6, .long lm), (8, .long x), (10, .int (nI i))] ∧ ps_f b (ps_m F) (F.drop (ps_k F)) 0 = ps_f b (ps_m F) (F.drop i) x.toInt ∧ ps_m F ≤ x.toInt ∧ x.toInt ≤ 0 ∧ i ≤ F.length) (fun x => match x with | (x, i) => F.length - i) ?_ ((0 : Int64), 0) ⟨hP.sub [0, 1, 2] rfl, hD.sub [0, 1, 2] (by decide) rfl, hS, lv_sub hl [6, 7, 5, 4, 3, 2, 1, 0] rfl, (by rw [hk]; rfl), (by rw [show (0 : Int64).toInt = 0 from rfl]; exact hml0), (by decide), (by rw [hk] at f_40; omega)⟩
        intro x H locs ls hI ih_75
        obtain ⟨x, i⟩ := x
        try dsimp only at hI
        obtain ⟨hP, hD, hS, hl, hI, hxl, hx0, hil⟩ := hI
        refine lv_iload hx hb d_Tf_readNumber_75 (lv_at hl 7 rfl) ?_
        refine lv_aload_n hx hb d_Tf_readNumber_77 rfl (lv_at hl 0 rfl) ?_
        refine va_get (D := (dC, dI)) (ci := 7) (v := .ref hf) (C := "TextForge") (T := TX7) (N := 7) hx hb hg iwX7 hown hK hP 0 rfl rfl 0 (by decide) (hg _ kw_131) (fun _ h9 => h9) rfl d_Tf_readNumber_78 ?_
        have hPc := hP.sub (ws' := [(hf, .inr (2, [.ref rf, .int (nI F.length)]))]) [1] rfl
        have hKc := hK.sub (tys' := []) [] rfl
        refine vp_callSi (W.runV (As := []) (rest := [.int (nI i)]) ⟨hx, hb, hml, hown, hg⟩ (c_By_length l dC dI hf (.ref rf) (nI F.length) ) (cwV 0 hg (gi_V kw_157 kw_158 kw_159 kw_2 kw_160) rfl rfl rfl (by decide +kernel) ⟨Nat.le_of_ble_eq_true rfl, Nat.le_of_ble_eq_true rfl⟩) (zz_prJV hPc hKc _ (q0 := 0) (ci := 2) rfl rfl) rfl rfl hl.1 rfl (lv_room (Nat.le_of_ble_eq_true rfl)) d_Tf_readNumber_81 ⟨Nat.le_of_ble_eq_true rfl, Nat.le_of_ble_eq_true rfl⟩) (fun r_7 hr_7 => ?_)
        subst hr_7
        refine lv_icmp_ge (tgt := 157) hx hb d_Tf_readNumber_84 (by decide) (fun c_84 => ?_) (fun c_84 => ?_)
        · skip
          have f_84 : F.length ≤ i := (nI_leI (by omega) (by omega)).mp c_84
          rw [ps_end f_84] at hI
          refine lv_aload_n hx hb d_Tf_readNumber_157 rfl (lv_at hl 0 rfl) ?_
          refine lv_iload_n hx hb d_Tf_readNumber_158 rfl (lv_at hl 2 rfl) ?_
          refine lv_bipush (v := 45) hx hb d_Tf_readNumber_159 (by decide) ?_
          refine lv_icmp_ne (tgt := 169) hx hb d_Tf_readNumber_161 (by decide) (fun _ => ?_) (fun c9 => by first | exact absurd c9 c_18 | exact absurd c_18 c9)
          refine lv_lload hx hb d_Tf_readNumber_169 (lv_at hl 6 rfl) ?_
          refine lv_lneg hx hb d_Tf_readNumber_171 ?_
          refine lv_topl (fun y0 ey0 => ?_)
          have hso : ps_v F b = some y0.toInt := by rw [ps_1 f_40, hI, hn, ey0, lz_neg rfl (by omega) (by omega)]; rfl
          refine va_put (D := (dC, dI)) (ci := 7) (v := .long y0) (ty := .long) (C := "TextForge") (T := TX7) (N := 7) hx hb hg iwX7 tyX7 tyX7_ok nmX7 hown hK hP hD hS 0 rfl rfl 6 (by decide) (hg _ kw_137) (fun _ h9 => h9) rfl (by decide +kernel) rfl rfl (Nat.le_of_ble_eq_true rfl) d_Tf_readNumber_172 (fun H locs hP hD hS => ?_)
          have hP : va_P (dC, dI) vwCl [(tf, .inr (7, [.ref hf, .ref hq, .ref hs, .ref hd, .ref hp, .ref hc, .long y0])), (hf, .inr (2, [.ref rf, .int (nI F.length)])), (rf, .inl (cB, 4096, .inl ff))] H := hP
          have hD : va_D A [(tf, .inr (7, [.ref hf, .ref hq, .ref hs, .ref hd, .ref hp, .ref hc, .long y0])), (hf, .inr (2, [.ref rf, .int (nI F.length)])), (rf, .inl (cB, 4096, .inl ff))] := hD
          refine lv_iconst (v := 1) hx hb d_Tf_readNumber_175 (by decide) ?_
          have hP9 := hP.sub (ws' := [(tf, .inr (7, [.ref hf, .ref hq, .ref hs, .ref hd, .ref hp, .ref hc, .long y0])), (hf, .inr (2, [.ref rf, .int (nI F.length)])), (rf, .inl (cB, 4096, .inl ff))]) [0, 1, 2] rfl
          have hD9 := hD.sub (ws' := [(tf, .inr (7, [.ref hf, .ref hq, .ref hs, .ref hd, .ref hp, .ref hc, .long y0])), (hf, .inr (2, [.ref rf, .int (nI F.length)])), (rf, .inl (cB, 4096, .inl ff))]) [0, 1, 2] (by decide) rfl
          have hK9 := hK.sub (tys' := [(cB, .byte)]) [0] rfl
          rw [show Value.long y0 = Value.long (ps_l ln (ps_v F b)) by rw [hso, ps_l, ← lz_of rfl]] at hP9 hD9
          exact zz_zret hx hb hr hlocks d_Tf_readNumber_176 (by decide) hS (by first | exact Nat.le_refl _ | decide | omega | (dsimp only; omega)) (by first | exact Nat.le_refl _ | decide | omega | (dsimp only; omega)) () (by rw [hso]; rfl) hP9 hK9 hD9
        · skip
          have f_84 : i < F.length := Nat.lt_of_not_le (fun z => c_84 (nI_le z (by omega)))
          refine lv_aload_n hx hb d_Tf_readNumber_87 rfl (lv_at hl 0 rfl) ?_
          refine va_get (D := (dC, dI)) (ci := 7) (v := .ref hf) (C := "TextForge") (T := TX7) (N := 7) hx hb hg iwX7 hown hK hP 0 rfl rfl 0 (by decide) (hg _ kw_131) (fun _ h9 => h9) rfl d_Tf_readNumber_88 ?_
          refine lv_iload hx hb d_Tf_readNumber_91 (lv_at hl 7 rfl) ?_
          have hPc := hP.sub (ws' := [(hf, .inr (2, [.ref rf, .int (nI F.length)])), (rf, .inl (cB, 4096, .inl ff))]) [1, 2] rfl
          have hKc := hK.sub (tys' := [(cB, .byte)]) [0] rfl
          refine vp_callSi (W.runV (As := [.int (nI i)]) (rest := []) ⟨hx, hb, hml, hown, hg⟩ (c_By_at l dC dI hf rf cB 4096 ff F (nI i) hLf hcf (by decide)) (cwV 1 hg (gi_V kw_193 kw_194 kw_195 kw_2 kw_196) rfl rfl rfl (by decide +kernel) ⟨Nat.le_of_ble_eq_true rfl, Nat.le_of_ble_eq_true rfl⟩) (zz_prJV hPc hKc _ (q0 := 0) (ci := 2) rfl rfl) rfl rfl hl.1 rfl (lv_room (Nat.le_of_ble_eq_true rfl)) d_Tf_readNumber_93 ⟨Nat.le_of_ble_eq_true rfl, Nat.le_of_ble_eq_true rfl⟩) (fun r_8 hr_8 => ?_)
          rw [by_at_in f_84 (by omega)] at hr_8
          subst hr_8
          have hPc := hP.sub (ws' := []) [] rfl
          have hKc := hK.sub (tys' := []) [] rfl
          refine vp_callSi (W.runS (As := [.int (nI (F.getD i 0))]) (rest := []) ⟨hx, hb, hml, hown, hg⟩ (c_Tf_digitOf l dC dI (nI (F.getD i 0)) ) (va_cwS 1 hg (gi_S kw_674 kw_675 kw_1 kw_676) rfl rfl rfl (by decide +kernel) ⟨Nat.le_of_ble_eq_true rfl, Nat.le_of_ble_eq_true rfl⟩) (zz_prJS hPc hKc _) rfl rfl hl.1 rfl (lv_room (Nat.le_of_ble_eq_true rfl)) d_Tf_readNumber_96 ⟨Nat.le_of_ble_eq_true rfl, Nat.le_of_ble_eq_true rfl⟩) (fun r_9 hr_9 => ?_)
          rw [dg_n _ (hLf i f_84).1] at hr_9
          rcases dgN_r (F.getD i 0) with hdg | hdg
          · skip
            rw [if_pos hdg] at hr_9
            subst hr_9
            refine lv_istore (lv' := [(11, .int (nI (dgN (F.getD i 0)))), (0, .ref tf), (1, .int (nI b)), (2, .int (by_at F 0)), (3, .int 0), (4, .long le0), (6, .long lm), (8, .long x), (10, .int (nI i))]) hx hb d_Tf_readNumber_99 hl (by decide) rfl (fun ls hl => ?_)
            refine lv_iload hx hb d_Tf_readNumber_101 (lv_at hl 0 rfl) ?_
            refine lv_if_lt (tgt := 120) hx hb d_Tf_readNumber_103 (by decide) (fun c9 => by first | exact absurd c9 (nI_pos (by omega)) | exact absurd (nI_pos (by omega)) c9) (fun _ => ?_)
            refine lv_iload hx hb d_Tf_readNumber_106 (lv_at hl 0 rfl) ?_
            refine lv_iload_n hx hb d_Tf_readNumber_108 rfl (lv_at hl 2 rfl) ?_
            refine lv_icmp_ge (tgt := 120) hx hb d_Tf_readNumber_109 (by decide) (fun c_109 => ?_) (fun c_109 => ?_)
            · skip
              have f_109 : b ≤ dgN (F.getD i 0) := (nI_leI (by omega) (by omega)).mp c_109
              have hno : ps_v F b = none := by rw [ps_1 f_40, hI, ps_no f_84 (by omega)]; rfl
              refine lv_iconst (v := 0) hx hb d_Tf_readNumber_120 (by decide) ?_
              have hP9 := hP.sub (ws' := [(tf, .inr (7, [.ref hf, .ref hq, .ref hs, .ref hd, .ref hp, .ref hc, .long ln])), (hf, .inr (2, [.ref rf, .int (nI F.length)])), (rf, .inl (cB, 4096, .inl ff))]) [0, 1, 2] rfl
              have hD9 := hD.sub (ws' := [(tf, .inr (7, [.ref hf, .ref hq, .ref hs, .ref hd, .ref hp, .ref hc, .long ln])), (hf, .inr (2, [.ref rf, .int (nI F.length)])), (rf, .inl (cB, 4096, .inl ff))]) [0, 1, 2] (by decide) rfl
              have hK9 := hK.sub (tys' := [(cB, .byte)]) [0] rfl
              rw [show Value.long ln = Value.long (ps_l ln (ps_v F b)) by rw [hno]; rfl] at hP9 hD9
              exact zz_zret hx hb hr hlocks d_Tf_readNumber_121 (by decide) hS (by first | exact Nat.le_refl _ | decide | omega | (dsimp only; omega)) (by first | exact Nat.le_refl _ | decide | omega | (dsimp only; omega)) () (by rw [hno]; rfl) hP9 hK9 hD9
            · skip
              have f_109 : dgN (F.getD i 0) < b := Nat.lt_of_not_le (fun z => c_109 (nI_le z (by omega)))
              refine lv_lload hx hb d_Tf_readNumber_112 (lv_at hl 7 rfl) ?_
              refine lv_lload hx hb d_Tf_readNumber_114 (lv_at hl 6 rfl) ?_
              refine W.lcmp hx hb d_Tf_readNumber_116 ?_
              refine lv_if_ge (tgt := 122) hx hb d_Tf_readNumber_117 (by decide) (fun c_117 => ?_) (fun c_117 => ?_)
              · skip
                have f_117 : (ps_m F).tdiv b ≤ x.toInt := by rw [lg_cmp_ge, Int64.le_iff_toInt_le, hlm] at c_117; exact c_117
                have hmb := ps_hi hb2 hml0 f_117
                have hmc : x.toInt * b ≤ 0 := Int.mul_nonpos_of_nonpos_of_nonneg hx0 (by omega)
                refine lv_lload hx hb d_Tf_readNumber_122 (lv_at hl 7 rfl) ?_
                refine lv_iload_n hx hb d_Tf_readNumber_124 rfl (lv_at hl 2 rfl) ?_
                refine lv_i2l hx hb d_Tf_readNumber_125 rfl ?_
                refine lv_lmul hx hb d_Tf_readNumber_126 ?_
                refine lv_topl (fun x2 ex2 => ?_)
                have hx2v : x2.toInt = x.toInt * b := by rw [ex2]; exact lz_mul rfl (lz_b (by omega)) (by omega) (by omega)
                refine lv_lstore (lv' := [(8, .long x2), (11, .int (nI (dgN (F.getD i 0)))), (0, .ref tf), (1, .int (nI b)), (2, .int (by_at F 0)), (3, .int 0), (4, .long le0), (6, .long lm), (10, .int (nI i))]) hx hb d_Tf_readNumber_127 hl (by decide) rfl (fun ls hl => ?_)
                refine lv_lload hx hb d_Tf_readNumber_129 (lv_at hl 0 rfl) ?_
                refine lv_lload hx hb d_Tf_readNumber_131 (lv_at hl 6 rfl) ?_
                refine lv_iload hx hb d_Tf_readNumber_133 (lv_at hl 1 rfl) ?_
                refine lv_i2l hx hb d_Tf_readNumber_135 rfl ?_
                refine lv_ladd hx hb d_Tf_readNumber_136 ?_
                refine W.lcmp hx hb d_Tf_readNumber_137 ?_
                refine lv_if_ge (tgt := 143) hx hb d_Tf_readNumber_138 (by decide) (fun c_138 => ?_) (fun c_138 => ?_)
                · skip
                  have f_138 : ps_m F ≤ x.toInt * b - dgN (F.getD i 0) := by rw [lg_cmp_ge, Int64.le_iff_toInt_le, lz_add hle (lz_b (b := dgN (F.getD i 0)) (by omega)) (by omega) (by omega), hx2v] at c_138; omega
                  refine lv_lload hx hb d_Tf_readNumber_143 (lv_at hl 0 rfl) ?_
                  refine lv_iload hx hb d_Tf_readNumber_145 (lv_at hl 1 rfl) ?_
                  refine lv_i2l hx hb d_Tf_readNumber_147 rfl ?_
                  refine lv_lsub hx hb d_Tf_readNumber_148 ?_
                  refine lv_topl (fun x3 ex3 => ?_)
                  have hx3v : x3.toInt = x.toInt * b - dgN (F.getD i 0) := by rw [ex3]; exact lz_sub hx2v (lz_b (by omega)) (by omega) (by omega)
                  have hI2 : ps_f b (ps_m F) (F.drop (ps_k F)) 0 = ps_f b (ps_m F) (F.drop (i + 1)) x3.toInt := by rw [hI, ps_yes f_84 f_109 f_138, hx3v]
                  have hx2 : ps_m F ≤ x3.toInt := by rw [hx3v]; exact f_138
                  have hx3 : x3.toInt ≤ 0 := by rw [hx3v]; omega
                  refine lv_lstore (lv' := [(8, .long x3), (11, .int (nI (dgN (F.getD i 0)))), (0, .ref tf), (1, .int (nI b)), (2, .int (by_at F 0)), (3, .int 0), (4, .long le0), (6, .long lm), (10, .int (nI i))]) hx hb d_Tf_readNumber_149 hl (by decide) rfl (fun ls hl => ?_)
                  refine lv_iinc (v := (nI i) + 1) (lv' := [(10, .int ((nI i) + 1)), (8, .long x3), (11, .int (nI (dgN (F.getD i 0)))), (0, .ref tf), (1, .int (nI b)), (2, .int (by_at F 0)), (3, .int 0), (4, .long le0), (6, .long lm)]) hx hb d_Tf_readNumber_151 hl (k := 8) rfl rfl (by decide) rfl (fun ls hl => ?_)
                  refine lv_goto (tgt := 75) hx hb d_Tf_readNumber_154 (by decide) ?_
                  rw [nI_1] at hl
                  exact ih_75 (x3, i + 1) H locs ls ⟨hP.sub [0, 1, 2] rfl, hD.sub [0, 1, 2] (by decide) rfl, hS, lv_sub hl [3, 4, 5, 6, 7, 8, 1, 0] rfl, hI2, hx2, hx3, f_84⟩ (by dsimp only; omega)
                · skip
                  have f_138 : ¬ ps_m F ≤ x.toInt * b - dgN (F.getD i 0) := by rw [lg_cmp_ge, Int64.le_iff_toInt_le, lz_add hle (lz_b (b := dgN (F.getD i 0)) (by omega)) (by omega) (by omega), hx2v] at c_138; omega
                  have hno : ps_v F b = none := by rw [ps_1 f_40, hI, ps_no f_84 (fun z => f_138 z.2)]; rfl
                  refine lv_iconst (v := 0) hx hb d_Tf_readNumber_141 (by decide) ?_
                  have hP9 := hP.sub (ws' := [(tf, .inr (7, [.ref hf, .ref hq, .ref hs, .ref hd, .ref hp, .ref hc, .long ln])), (hf, .inr (2, [.ref rf, .int (nI F.length)])), (rf, .inl (cB, 4096, .inl ff))]) [0, 1, 2] rfl
                  have hD9 := hD.sub (ws' := [(tf, .inr (7, [.ref hf, .ref hq, .ref hs, .ref hd, .ref hp, .ref hc, .long ln])), (hf, .inr (2, [.ref rf, .int (nI F.length)])), (rf, .inl (cB, 4096, .inl ff))]) [0, 1, 2] (by decide) rfl
                  have hK9 := hK.sub (tys' := [(cB, .byte)]) [0] rfl
                  rw [show Value.long ln = Value.long (ps_l ln (ps_v F b)) by rw [hno]; rfl] at hP9 hD9
                  exact zz_zret hx hb hr hlocks d_Tf_readNumber_142 (by decide) hS (by first | exact Nat.le_refl _ | decide | omega | (dsimp only; omega)) (by first | exact Nat.le_refl _ | decide | omega | (dsimp only; omega)) () (by rw [hno]; rfl) hP9 hK9 hD9
              · skip
                have f_117 : x.toInt < (ps_m F).tdiv b := by rw [lg_cmp_ge, Int64.le_iff_toInt_le, hlm] at c_117; omega
                have hlo := ps_lo hb2 hml0 f_117
                have hno : ps_v F b = none := by rw [ps_1 f_40, hI, ps_no f_84 (by omega)]; rfl
                refine lv_iconst (v := 0) hx hb d_Tf_readNumber_120 (by decide) ?_
                have hP9 := hP.sub (ws' := [(tf, .inr (7, [.ref hf, .ref hq, .ref hs, .ref hd, .ref hp, .ref hc, .long ln])), (hf, .inr (2, [.ref rf, .int (nI F.length)])), (rf, .inl (cB, 4096, .inl ff))]) [0, 1, 2] rfl
                have hD9 := hD.sub (ws' := [(tf, .inr (7, [.ref hf, .ref hq, .ref hs, .ref hd, .ref hp, .ref hc, .long ln])), (hf, .inr (2, [.ref rf, .int (nI F.length)])), (rf, .inl (cB, 4096, .inl ff))]) [0, 1, 2] (by decide) rfl
                have hK9 := hK.sub (tys' := [(cB, .byte)]) [0] rfl
                rw [show Value.long ln = Value.long (ps_l ln (ps_v F b)) by rw [hno]; rfl] at hP9 hD9
                exact zz_zret hx hb hr hlocks d_Tf_readNumber_121 (by decide) hS (by first | exact Nat.le_refl _ | decide | omega | (dsimp only; omega)) (by first | exact Nat.le_refl _ | decide | omega | (dsimp only; omega)) () (by rw [hno]; rfl) hP9 hK9 hD9
          · skip
            rw [if_neg (by omega)] at hr_9
            subst hr_9
            have hno : ps_v F b = none := by rw [ps_1 f_40, hI, ps_no f_84 (by omega)]; rfl
            refine lv_istore (lv' := [(11, .int (-1)), (0, .ref tf), (1, .int (nI b)), (2, .int (by_at F 0)), (3, .int 0), (4, .long le0), (6, .long lm), (8, .long x), (10, .int (nI i))]) hx hb d_Tf_readNumber_99 hl (by decide) rfl (fun ls hl => ?_)
            refine lv_iload hx hb d_Tf_readNumber_101 (lv_at hl 0 rfl) ?_
            refine lv_if_lt (tgt := 120) hx hb d_Tf_readNumber_103 (by decide) (fun _ => ?_) (fun c9 => by first | exact absurd c9 (by decide) | exact absurd (by decide) c9)
            refine lv_iconst (v := 0) hx hb d_Tf_readNumber_120 (by decide) ?_
            have hP9 := hP.sub (ws' := [(tf, .inr (7, [.ref hf, .ref hq, .ref hs, .ref hd, .ref hp, .ref hc, .long ln])), (hf, .inr (2, [.ref rf, .int (nI F.length)])), (rf, .inl (cB, 4096, .inl ff))]) [0, 1, 2] rfl
            have hD9 := hD.sub (ws' := [(tf, .inr (7, [.ref hf, .ref hq, .ref hs, .ref hd, .ref hp, .ref hc, .long ln])), (hf, .inr (2, [.ref rf, .int (nI F.length)])), (rf, .inl (cB, 4096, .inl ff))]) [0, 1, 2] (by decide) rfl
            have hK9 := hK.sub (tys' := [(cB, .byte)]) [0] rfl
            rw [show Value.long ln = Value.long (ps_l ln (ps_v F b)) by rw [hno]; rfl] at hP9 hD9
            exact zz_zret hx hb hr hlocks d_Tf_readNumber_121 (by decide) hS (by first | exact Nat.le_refl _ | decide | omega | (dsimp only; omega)) (by first | exact Nat.le_refl _ | decide | omega | (dsimp only; omega)) () (by rw [hno]; rfl) hP9 hK9 hD9
      · skip
        have f_40 : F.length ≤ ps_k F := by rw [hk]; exact Nat.le_of_not_lt (fun z => c_40 (nI_lt (a := 0) z (by omega)))
        have hno : ps_v F b = none := ps_0 f_40
        refine lv_iconst (v := 0) hx hb d_Tf_readNumber_43 (by decide) ?_
        have hP9 := hP.sub (ws' := [(tf, .inr (7, [.ref hf, .ref hq, .ref hs, .ref hd, .ref hp, .ref hc, .long ln])), (hf, .inr (2, [.ref rf, .int (nI F.length)])), (rf, .inl (cB, 4096, .inl ff))]) [0, 1, 2] rfl
        have hD9 := hD.sub (ws' := [(tf, .inr (7, [.ref hf, .ref hq, .ref hs, .ref hd, .ref hp, .ref hc, .long ln])), (hf, .inr (2, [.ref rf, .int (nI F.length)])), (rf, .inl (cB, 4096, .inl ff))]) [0, 1, 2] (by decide) rfl
        have hK9 := hK.sub (tys' := [(cB, .byte)]) [0] rfl
        rw [show Value.long ln = Value.long (ps_l ln (ps_v F b)) by rw [hno]; rfl] at hP9 hD9
        exact zz_zret hx hb hr hlocks d_Tf_readNumber_44 (by decide) hS (by first | exact Nat.le_refl _ | decide | omega | (dsimp only; omega)) (by first | exact Nat.le_refl _ | decide | omega | (dsimp only; omega)) () (by rw [hno]; rfl) hP9 hK9 hD9
    · skip
      have hg0 : F.getD 0 0 = 45 := (by_at0 hLf (by omega) (k := 45) (by decide) (by decide)).mp c_18
      have hk : ps_k F = 1 := if_pos (Or.inr hg0)
      have hn : ps_n F = true := decide_eq_true hg0
      refine lv_iconst (v := 1) hx hb d_Tf_readNumber_21 (by decide) ?_
      refine lv_goto (tgt := 26) hx hb d_Tf_readNumber_22 (by decide) ?_
      refine lv_istore_n (lv' := [(3, .int 1), (2, .int (by_at F 0)), (0, .ref tf), (1, .int (nI b))]) hx hb d_Tf_readNumber_26 rfl hl (by decide) rfl (fun ls hl => ?_)
      refine lv_iload_n hx hb d_Tf_readNumber_27 rfl (lv_at hl 3 rfl) ?_
      refine lv_iconst (v := 2) hx hb d_Tf_readNumber_28 (by decide) ?_
      refine lv_icmp_lt (tgt := 43) hx hb d_Tf_readNumber_29 (by decide) (fun c9 => by first | exact absurd c9 (nI_nlt (b := 2) hb2 (by omega)) | exact absurd (nI_nlt (b := 2) hb2 (by omega)) c9) (fun _ => ?_)
      refine lv_iload_n hx hb d_Tf_readNumber_32 rfl (lv_at hl 0 rfl) ?_
      refine lv_aload_n hx hb d_Tf_readNumber_33 rfl (lv_at hl 2 rfl) ?_
      refine va_get (D := (dC, dI)) (ci := 7) (v := .ref hf) (C := "TextForge") (T := TX7) (N := 7) hx hb hg iwX7 hown hK hP 0 rfl rfl 0 (by decide) (hg _ kw_131) (fun _ h9 => h9) rfl d_Tf_readNumber_34 ?_
      have hPc := hP.sub (ws' := [(hf, .inr (2, [.ref rf, .int (nI F.length)]))]) [1] rfl
      have hKc := hK.sub (tys' := []) [] rfl
      refine vp_callSi (W.runV (As := []) (rest := [.int 1]) ⟨hx, hb, hml, hown, hg⟩ (c_By_length l dC dI hf (.ref rf) (nI F.length) ) (cwV 0 hg (gi_V kw_157 kw_158 kw_159 kw_2 kw_160) rfl rfl rfl (by decide +kernel) ⟨Nat.le_of_ble_eq_true rfl, Nat.le_of_ble_eq_true rfl⟩) (zz_prJV hPc hKc _ (q0 := 0) (ci := 2) rfl rfl) rfl rfl hl.1 rfl (lv_room (Nat.le_of_ble_eq_true rfl)) d_Tf_readNumber_37 ⟨Nat.le_of_ble_eq_true rfl, Nat.le_of_ble_eq_true rfl⟩) (fun r_10 hr_10 => ?_)
      subst hr_10
      refine lv_icmp_lt (tgt := 45) hx hb d_Tf_readNumber_40 (by decide) (fun c_40 => ?_) (fun c_40 => ?_)
      · skip
        have f_40 : ps_k F < F.length := by rw [hk]; exact (nI_ltI (a := 1) (by decide) (by omega)).mp c_40
        refine lv_iload_n hx hb d_Tf_readNumber_45 rfl (lv_at hl 1 rfl) ?_
        refine lv_bipush (v := 45) hx hb d_Tf_readNumber_46 (by decide) ?_
        refine lv_icmp_ne (tgt := 57) hx hb d_Tf_readNumber_48 (by decide) (fun c9 => by first | exact absurd c9 c_18 | exact absurd c_18 c9) (fun _ => ?_)
        refine W.ldc2 (v := (-9223372036854775808)) hx hb hown (hg _ kw_672) rfl d_Tf_readNumber_51 ?_
        refine W.eq (g2 := F0 m 54 ls [.long (-9223372036854775808)]) rfl ?_
        refine lv_goto (tgt := 60) hx hb d_Tf_readNumber_54 (by decide) ?_
        refine lv_topl (fun le0 ele0 => ?_)
        have hm : ps_m F = -9223372036854775808 := by unfold ps_m; rw [hn]; rfl
        have hle : le0.toInt = ps_m F := by rw [ele0, hm]; decide
        have hml0 : ps_m F ≤ 0 := by rw [hm]; decide
        have hmlo : -9223372036854775808 ≤ ps_m F := by rw [hm]; decide
        refine lv_lstore (lv' := [(4, .long le0), (3, .int 1), (2, .int (by_at F 0)), (0, .ref tf), (1, .int (nI b))]) hx hb d_Tf_readNumber_60 hl (by decide) rfl (fun ls hl => ?_)
        refine lv_lload hx hb d_Tf_readNumber_62 (lv_at hl 0 rfl) ?_
        refine lv_iload_n hx hb d_Tf_readNumber_64 rfl (lv_at hl 4 rfl) ?_
        refine lv_i2l hx hb d_Tf_readNumber_65 rfl ?_
        refine lv_ldiv hx hb d_Tf_readNumber_66 (lz_ne hb2 hb36) ?_
        refine lv_topl (fun lm elm => ?_)
        have hlm : lm.toInt = (ps_m F).tdiv b := by rw [elm]; exact lz_div hle (lz_b (by omega)) (by omega) hmlo hml0
        refine lv_lstore (lv' := [(6, .long lm), (4, .long le0), (3, .int 1), (2, .int (by_at F 0)), (0, .ref tf), (1, .int (nI b))]) hx hb d_Tf_readNumber_67 hl (by decide) rfl (fun ls hl => ?_)
        refine lv_lconst (v := 0) hx hb d_Tf_readNumber_69 (by decide) ?_
        refine lv_lstore (lv' := [(8, .long 0), (6, .long lm), (4, .long le0), (3, .int 1), (2, .int (by_at F 0)), (0, .ref tf), (1, .int (nI b))]) hx hb d_Tf_readNumber_70 hl (by decide) rfl (fun ls hl => ?_)
        refine lv_iload_n hx hb d_Tf_readNumber_72 rfl (lv_at hl 3 rfl) ?_
        refine lv_istore (lv' := [(10, .int 1), (8, .long 0), (6, .long lm), (4, .long le0), (3, .int 1), (2, .int (by_at F 0)), (0, .ref tf), (1, .int (nI b))]) hx hb d_Tf_readNumber_73 hl (by decide) rfl (fun ls hl => ?_)
        refine zz_loop (fun (x : Int64 × Nat) H locs ls => match x with | (x, i) => va_P (dC, dI) vwCl [(tf, .inr (7, [.ref hf, .ref hq, .ref hs, .ref hd, .ref hp, .ref hc, .long ln])), (hf, .inr (2, [.ref rf, .int (nI F.length)])), (rf, .inl (cB, 4096, .inl ff))] H ∧ va_D A [(tf, .inr (7, [.ref hf, .ref hq, .ref hs, .ref hd, .ref hp, .ref hc, .long ln])), (hf, .inr (2, [.ref rf, .int (nI F.length)])), (rf, .inl (cB, 4096, .inl ff))] ∧ va_S A s.heap H locs ∧ lv_has ls 12 [(0, .ref tf), (1, .int (nI b)), (2, .int (by_at F 0)), (3, .int 1), (4, .long le0), (6, .long lm), (8, .long x), (10, .int (nI i))] ∧ ps_f b (ps_m F) (F.drop (ps_k F)) 0 = ps_f b (ps_m F) (F.drop i) x.toInt ∧ ps_m F ≤ x.toInt ∧ x.toInt ≤ 0 ∧ i ≤ F.length) (fun x => match x with | (x, i) => F.length - i) ?_ ((0 : Int64), 1) ⟨hP.sub [0, 1, 2] rfl, hD.sub [0, 1, 2] (by decide) rfl, hS, lv_sub hl [6, 7, 5, 4, 3, 2, 1, 0] rfl, (by rw [hk]; rfl), (by rw [show (0 : Int64).toInt = 0 from rfl]; exact hml0), (by decide), (by rw [hk] at f_40; omega)⟩
        intro x H locs ls hI ih_75
        obtain ⟨x, i⟩ := x
        try dsimp only at hI
        obtain ⟨hP, hD, hS, hl, hI, hxl, hx0, hil⟩ := hI
        refine lv_iload hx hb d_Tf_readNumber_75 (lv_at hl 7 rfl) ?_
        refine lv_aload_n hx hb d_Tf_readNumber_77 rfl (lv_at hl 0 rfl) ?_
        refine va_get (D := (dC, dI)) (ci := 7) (v := .ref hf) (C := "TextForge") (T := TX7) (N := 7) hx hb hg iwX7 hown hK hP 0 rfl rfl 0 (by decide) (hg _ kw_131) (fun _ h9 => h9) rfl d_Tf_readNumber_78 ?_
        have hPc := hP.sub (ws' := [(hf, .inr (2, [.ref rf, .int (nI F.length)]))]) [1] rfl
        have hKc := hK.sub (tys' := []) [] rfl
        refine vp_callSi (W.runV (As := []) (rest := [.int (nI i)]) ⟨hx, hb, hml, hown, hg⟩ (c_By_length l dC dI hf (.ref rf) (nI F.length) ) (cwV 0 hg (gi_V kw_157 kw_158 kw_159 kw_2 kw_160) rfl rfl rfl (by decide +kernel) ⟨Nat.le_of_ble_eq_true rfl, Nat.le_of_ble_eq_true rfl⟩) (zz_prJV hPc hKc _ (q0 := 0) (ci := 2) rfl rfl) rfl rfl hl.1 rfl (lv_room (Nat.le_of_ble_eq_true rfl)) d_Tf_readNumber_81 ⟨Nat.le_of_ble_eq_true rfl, Nat.le_of_ble_eq_true rfl⟩) (fun r_11 hr_11 => ?_)
        subst hr_11
        refine lv_icmp_ge (tgt := 157) hx hb d_Tf_readNumber_84 (by decide) (fun c_84 => ?_) (fun c_84 => ?_)
        · skip
          have f_84 : F.length ≤ i := (nI_leI (by omega) (by omega)).mp c_84
          rw [ps_end f_84] at hI
          refine lv_aload_n hx hb d_Tf_readNumber_157 rfl (lv_at hl 0 rfl) ?_
          refine lv_iload_n hx hb d_Tf_readNumber_158 rfl (lv_at hl 2 rfl) ?_
          refine lv_bipush (v := 45) hx hb d_Tf_readNumber_159 (by decide) ?_
          refine lv_icmp_ne (tgt := 169) hx hb d_Tf_readNumber_161 (by decide) (fun c9 => by first | exact absurd c9 c_18 | exact absurd c_18 c9) (fun _ => ?_)
          refine lv_lload hx hb d_Tf_readNumber_164 (lv_at hl 6 rfl) ?_
          refine lv_goto (tgt := 172) hx hb d_Tf_readNumber_166 (by decide) ?_
          refine lv_topl (fun y0 ey0 => ?_)
          have hso : ps_v F b = some y0.toInt := by rw [ps_1 f_40, hI, hn, ey0]; rfl
          refine va_put (D := (dC, dI)) (ci := 7) (v := .long y0) (ty := .long) (C := "TextForge") (T := TX7) (N := 7) hx hb hg iwX7 tyX7 tyX7_ok nmX7 hown hK hP hD hS 0 rfl rfl 6 (by decide) (hg _ kw_137) (fun _ h9 => h9) rfl (by decide +kernel) rfl rfl (Nat.le_of_ble_eq_true rfl) d_Tf_readNumber_172 (fun H locs hP hD hS => ?_)
          have hP : va_P (dC, dI) vwCl [(tf, .inr (7, [.ref hf, .ref hq, .ref hs, .ref hd, .ref hp, .ref hc, .long y0])), (hf, .inr (2, [.ref rf, .int (nI F.length)])), (rf, .inl (cB, 4096, .inl ff))] H := hP
          have hD : va_D A [(tf, .inr (7, [.ref hf, .ref hq, .ref hs, .ref hd, .ref hp, .ref hc, .long y0])), (hf, .inr (2, [.ref rf, .int (nI F.length)])), (rf, .inl (cB, 4096, .inl ff))] := hD
          refine lv_iconst (v := 1) hx hb d_Tf_readNumber_175 (by decide) ?_
          have hP9 := hP.sub (ws' := [(tf, .inr (7, [.ref hf, .ref hq, .ref hs, .ref hd, .ref hp, .ref hc, .long y0])), (hf, .inr (2, [.ref rf, .int (nI F.length)])), (rf, .inl (cB, 4096, .inl ff))]) [0, 1, 2] rfl
          have hD9 := hD.sub (ws' := [(tf, .inr (7, [.ref hf, .ref hq, .ref hs, .ref hd, .ref hp, .ref hc, .long y0])), (hf, .inr (2, [.ref rf, .int (nI F.length)])), (rf, .inl (cB, 4096, .inl ff))]) [0, 1, 2] (by decide) rfl
          have hK9 := hK.sub (tys' := [(cB, .byte)]) [0] rfl
          rw [show Value.long y0 = Value.long (ps_l ln (ps_v F b)) by rw [hso, ps_l, ← lz_of rfl]] at hP9 hD9
          exact zz_zret hx hb hr hlocks d_Tf_readNumber_176 (by decide) hS (by first | exact Nat.le_refl _ | decide | omega | (dsimp only; omega)) (by first | exact Nat.le_refl _ | decide | omega | (dsimp only; omega)) () (by rw [hso]; rfl) hP9 hK9 hD9
        · skip
          have f_84 : i < F.length := Nat.lt_of_not_le (fun z => c_84 (nI_le z (by omega)))
          refine lv_aload_n hx hb d_Tf_readNumber_87 rfl (lv_at hl 0 rfl) ?_
          refine va_get (D := (dC, dI)) (ci := 7) (v := .ref hf) (C := "TextForge") (T := TX7) (N := 7) hx hb hg iwX7 hown hK hP 0 rfl rfl 0 (by decide) (hg _ kw_131) (fun _ h9 => h9) rfl d_Tf_readNumber_88 ?_
          refine lv_iload hx hb d_Tf_readNumber_91 (lv_at hl 7 rfl) ?_
          have hPc := hP.sub (ws' := [(hf, .inr (2, [.ref rf, .int (nI F.length)])), (rf, .inl (cB, 4096, .inl ff))]) [1, 2] rfl
          have hKc := hK.sub (tys' := [(cB, .byte)]) [0] rfl
          refine vp_callSi (W.runV (As := [.int (nI i)]) (rest := []) ⟨hx, hb, hml, hown, hg⟩ (c_By_at l dC dI hf rf cB 4096 ff F (nI i) hLf hcf (by decide)) (cwV 1 hg (gi_V kw_193 kw_194 kw_195 kw_2 kw_196) rfl rfl rfl (by decide +kernel) ⟨Nat.le_of_ble_eq_true rfl, Nat.le_of_ble_eq_true rfl⟩) (zz_prJV hPc hKc _ (q0 := 0) (ci := 2) rfl rfl) rfl rfl hl.1 rfl (lv_room (Nat.le_of_ble_eq_true rfl)) d_Tf_readNumber_93 ⟨Nat.le_of_ble_eq_true rfl, Nat.le_of_ble_eq_true rfl⟩) (fun r_12 hr_12 => ?_)
          rw [by_at_in f_84 (by omega)] at hr_12
          subst hr_12
          have hPc := hP.sub (ws' := []) [] rfl
          have hKc := hK.sub (tys' := []) [] rfl
          refine vp_callSi (W.runS (As := [.int (nI (F.getD i 0))]) (rest := []) ⟨hx, hb, hml, hown, hg⟩ (c_Tf_digitOf l dC dI (nI (F.getD i 0)) ) (va_cwS 1 hg (gi_S kw_674 kw_675 kw_1 kw_676) rfl rfl rfl (by decide +kernel) ⟨Nat.le_of_ble_eq_true rfl, Nat.le_of_ble_eq_true rfl⟩) (zz_prJS hPc hKc _) rfl rfl hl.1 rfl (lv_room (Nat.le_of_ble_eq_true rfl)) d_Tf_readNumber_96 ⟨Nat.le_of_ble_eq_true rfl, Nat.le_of_ble_eq_true rfl⟩) (fun r_13 hr_13 => ?_)
          rw [dg_n _ (hLf i f_84).1] at hr_13
          rcases dgN_r (F.getD i 0) with hdg | hdg
          · skip
            rw [if_pos hdg] at hr_13
            subst hr_13
            refine lv_istore (lv' := [(11, .int (nI (dgN (F.getD i 0)))), (0, .ref tf), (1, .int (nI b)), (2, .int (by_at F 0)), (3, .int 1), (4, .long le0), (6, .long lm), (8, .long x), (10, .int (nI i))]) hx hb d_Tf_readNumber_99 hl (by decide) rfl (fun ls hl => ?_)
            refine lv_iload hx hb d_Tf_readNumber_101 (lv_at hl 0 rfl) ?_
            refine lv_if_lt (tgt := 120) hx hb d_Tf_readNumber_103 (by decide) (fun c9 => by first | exact absurd c9 (nI_pos (by omega)) | exact absurd (nI_pos (by omega)) c9) (fun _ => ?_)
            refine lv_iload hx hb d_Tf_readNumber_106 (lv_at hl 0 rfl) ?_
            refine lv_iload_n hx hb d_Tf_readNumber_108 rfl (lv_at hl 2 rfl) ?_
            refine lv_icmp_ge (tgt := 120) hx hb d_Tf_readNumber_109 (by decide) (fun c_109 => ?_) (fun c_109 => ?_)
            · skip
              have f_109 : b ≤ dgN (F.getD i 0) := (nI_leI (by omega) (by omega)).mp c_109
              have hno : ps_v F b = none := by rw [ps_1 f_40, hI, ps_no f_84 (by omega)]; rfl
              refine lv_iconst (v := 0) hx hb d_Tf_readNumber_120 (by decide) ?_
              have hP9 := hP.sub (ws' := [(tf, .inr (7, [.ref hf, .ref hq, .ref hs, .ref hd, .ref hp, .ref hc, .long ln])), (hf, .inr (2, [.ref rf, .int (nI F.length)])), (rf, .inl (cB, 4096, .inl ff))]) [0, 1, 2] rfl
              have hD9 := hD.sub (ws' := [(tf, .inr (7, [.ref hf, .ref hq, .ref hs, .ref hd, .ref hp, .ref hc, .long ln])), (hf, .inr (2, [.ref rf, .int (nI F.length)])), (rf, .inl (cB, 4096, .inl ff))]) [0, 1, 2] (by decide) rfl
              have hK9 := hK.sub (tys' := [(cB, .byte)]) [0] rfl
              rw [show Value.long ln = Value.long (ps_l ln (ps_v F b)) by rw [hno]; rfl] at hP9 hD9
              exact zz_zret hx hb hr hlocks d_Tf_readNumber_121 (by decide) hS (by first | exact Nat.le_refl _ | decide | omega | (dsimp only; omega)) (by first | exact Nat.le_refl _ | decide | omega | (dsimp only; omega)) () (by rw [hno]; rfl) hP9 hK9 hD9
            · skip
              have f_109 : dgN (F.getD i 0) < b := Nat.lt_of_not_le (fun z => c_109 (nI_le z (by omega)))
              refine lv_lload hx hb d_Tf_readNumber_112 (lv_at hl 7 rfl) ?_
              refine lv_lload hx hb d_Tf_readNumber_114 (lv_at hl 6 rfl) ?_
              refine W.lcmp hx hb d_Tf_readNumber_116 ?_
              refine lv_if_ge (tgt := 122) hx hb d_Tf_readNumber_117 (by decide) (fun c_117 => ?_) (fun c_117 => ?_)
              · skip
                have f_117 : (ps_m F).tdiv b ≤ x.toInt := by rw [lg_cmp_ge, Int64.le_iff_toInt_le, hlm] at c_117; exact c_117
                have hmb := ps_hi hb2 hml0 f_117
                have hmc : x.toInt * b ≤ 0 := Int.mul_nonpos_of_nonpos_of_nonneg hx0 (by omega)
                refine lv_lload hx hb d_Tf_readNumber_122 (lv_at hl 7 rfl) ?_
                refine lv_iload_n hx hb d_Tf_readNumber_124 rfl (lv_at hl 2 rfl) ?_
                refine lv_i2l hx hb d_Tf_readNumber_125 rfl ?_
                refine lv_lmul hx hb d_Tf_readNumber_126 ?_
                refine lv_topl (fun x2 ex2 => ?_)
                have hx2v : x2.toInt = x.toInt * b := by rw [ex2]; exact lz_mul rfl (lz_b (by omega)) (by omega) (by omega)
                refine lv_lstore (lv' := [(8, .long x2), (11, .int (nI (dgN (F.getD i 0)))), (0, .ref tf), (1, .int (nI b)), (2, .int (by_at F 0)), (3, .int 1), (4, .long le0), (6, .long lm), (10, .int (nI i))]) hx hb d_Tf_readNumber_127 hl (by decide) rfl (fun ls hl => ?_)
                refine lv_lload hx hb d_Tf_readNumber_129 (lv_at hl 0 rfl) ?_
                refine lv_lload hx hb d_Tf_readNumber_131 (lv_at hl 6 rfl) ?_
                refine lv_iload hx hb d_Tf_readNumber_133 (lv_at hl 1 rfl) ?_
                refine lv_i2l hx hb d_Tf_readNumber_135 rfl ?_
                refine lv_ladd hx hb d_Tf_readNumber_136 ?_
                refine W.lcmp hx hb d_Tf_readNumber_137 ?_
                refine lv_if_ge (tgt := 143) hx hb d_Tf_readNumber_138 (by decide) (fun c_138 => ?_) (fun c_138 => ?_)
                · skip
                  have f_138 : ps_m F ≤ x.toInt * b - dgN (F.getD i 0) := by rw [lg_cmp_ge, Int64.le_iff_toInt_le, lz_add hle (lz_b (b := dgN (F.getD i 0)) (by omega)) (by omega) (by omega), hx2v] at c_138; omega
                  refine lv_lload hx hb d_Tf_readNumber_143 (lv_at hl 0 rfl) ?_
                  refine lv_iload hx hb d_Tf_readNumber_145 (lv_at hl 1 rfl) ?_
                  refine lv_i2l hx hb d_Tf_readNumber_147 rfl ?_
                  refine lv_lsub hx hb d_Tf_readNumber_148 ?_
                  refine lv_topl (fun x3 ex3 => ?_)
                  have hx3v : x3.toInt = x.toInt * b - dgN (F.getD i 0) := by rw [ex3]; exact lz_sub hx2v (lz_b (by omega)) (by omega) (by omega)
                  have hI2 : ps_f b (ps_m F) (F.drop (ps_k F)) 0 = ps_f b (ps_m F) (F.drop (i + 1)) x3.toInt := by rw [hI, ps_yes f_84 f_109 f_138, hx3v]
                  have hx2 : ps_m F ≤ x3.toInt := by rw [hx3v]; exact f_138
                  have hx3 : x3.toInt ≤ 0 := by rw [hx3v]; omega
                  refine lv_lstore (lv' := [(8, .long x3), (11, .int (nI (dgN (F.getD i 0)))), (0, .ref tf), (1, .int (nI b)), (2, .int (by_at F 0)), (3, .int 1), (4, .long le0), (6, .long lm), (10, .int (nI i))]) hx hb d_Tf_readNumber_149 hl (by decide) rfl (fun ls hl => ?_)
                  refine lv_iinc (v := (nI i) + 1) (lv' := [(10, .int ((nI i) + 1)), (8, .long x3), (11, .int (nI (dgN (F.getD i 0)))), (0, .ref tf), (1, .int (nI b)), (2, .int (by_at F 0)), (3, .int 1), (4, .long le0), (6, .long lm)]) hx hb d_Tf_readNumber_151 hl (k := 8) rfl rfl (by decide) rfl (fun ls hl => ?_)
                  refine lv_goto (tgt := 75) hx hb d_Tf_readNumber_154 (by decide) ?_
                  rw [nI_1] at hl
                  exact ih_75 (x3, i + 1) H locs ls ⟨hP.sub [0, 1, 2] rfl, hD.sub [0, 1, 2] (by decide) rfl, hS, lv_sub hl [3, 4, 5, 6, 7, 8, 1, 0] rfl, hI2, hx2, hx3, f_84⟩ (by dsimp only; omega)
                · skip
                  have f_138 : ¬ ps_m F ≤ x.toInt * b - dgN (F.getD i 0) := by rw [lg_cmp_ge, Int64.le_iff_toInt_le, lz_add hle (lz_b (b := dgN (F.getD i 0)) (by omega)) (by omega) (by omega), hx2v] at c_138; omega
                  have hno : ps_v F b = none := by rw [ps_1 f_40, hI, ps_no f_84 (fun z => f_138 z.2)]; rfl
                  refine lv_iconst (v := 0) hx hb d_Tf_readNumber_141 (by decide) ?_
                  have hP9 := hP.sub (ws' := [(tf, .inr (7, [.ref hf, .ref hq, .ref hs, .ref hd, .ref hp, .ref hc, .long ln])), (hf, .inr (2, [.ref rf, .int (nI F.length)])), (rf, .inl (cB, 4096, .inl ff))]) [0, 1, 2] rfl
                  have hD9 := hD.sub (ws' := [(tf, .inr (7, [.ref hf, .ref hq, .ref hs, .ref hd, .ref hp, .ref hc, .long ln])), (hf, .inr (2, [.ref rf, .int (nI F.length)])), (rf, .inl (cB, 4096, .inl ff))]) [0, 1, 2] (by decide) rfl
                  have hK9 := hK.sub (tys' := [(cB, .byte)]) [0] rfl
                  rw [show Value.long ln = Value.long (ps_l ln (ps_v F b)) by rw [hno]; rfl] at hP9 hD9
                  exact zz_zret hx hb hr hlocks d_Tf_readNumber_142 (by decide) hS (by first | exact Nat.le_refl _ | decide | omega | (dsimp only; omega)) (by first | exact Nat.le_refl _ | decide | omega | (dsimp only; omega)) () (by rw [hno]; rfl) hP9 hK9 hD9
              · skip
                have f_117 : x.toInt < (ps_m F).tdiv b := by rw [lg_cmp_ge, Int64.le_iff_toInt_le, hlm] at c_117; omega
                have hlo := ps_lo hb2 hml0 f_117
                have hno : ps_v F b = none := by rw [ps_1 f_40, hI, ps_no f_84 (by omega)]; rfl
                refine lv_iconst (v := 0) hx hb d_Tf_readNumber_120 (by decide) ?_
                have hP9 := hP.sub (ws' := [(tf, .inr (7, [.ref hf, .ref hq, .ref hs, .ref hd, .ref hp, .ref hc, .long ln])), (hf, .inr (2, [.ref rf, .int (nI F.length)])), (rf, .inl (cB, 4096, .inl ff))]) [0, 1, 2] rfl
                have hD9 := hD.sub (ws' := [(tf, .inr (7, [.ref hf, .ref hq, .ref hs, .ref hd, .ref hp, .ref hc, .long ln])), (hf, .inr (2, [.ref rf, .int (nI F.length)])), (rf, .inl (cB, 4096, .inl ff))]) [0, 1, 2] (by decide) rfl
                have hK9 := hK.sub (tys' := [(cB, .byte)]) [0] rfl
                rw [show Value.long ln = Value.long (ps_l ln (ps_v F b)) by rw [hno]; rfl] at hP9 hD9
                exact zz_zret hx hb hr hlocks d_Tf_readNumber_121 (by decide) hS (by first | exact Nat.le_refl _ | decide | omega | (dsimp only; omega)) (by first | exact Nat.le_refl _ | decide | omega | (dsimp only; omega)) () (by rw [hno]; rfl) hP9 hK9 hD9
          · skip
            rw [if_neg (by omega)] at hr_13
            subst hr_13
            have hno : ps_v F b = none := by rw [ps_1 f_40, hI, ps_no f_84 (by omega)]; rfl
            refine lv_istore (lv' := [(11, .int (-1)), (0, .ref tf), (1, .int (nI b)), (2, .int (by_at F 0)), (3, .int 1), (4, .long le0), (6, .long lm), (8, .long x), (10, .int (nI i))]) hx hb d_Tf_readNumber_99 hl (by decide) rfl (fun ls hl => ?_)
            refine lv_iload hx hb d_Tf_readNumber_101 (lv_at hl 0 rfl) ?_
            refine lv_if_lt (tgt := 120) hx hb d_Tf_readNumber_103 (by decide) (fun _ => ?_) (fun c9 => by first | exact absurd c9 (by decide) | exact absurd (by decide) c9)
            refine lv_iconst (v := 0) hx hb d_Tf_readNumber_120 (by decide) ?_
            have hP9 := hP.sub (ws' := [(tf, .inr (7, [.ref hf, .ref hq, .ref hs, .ref hd, .ref hp, .ref hc, .long ln])), (hf, .inr (2, [.ref rf, .int (nI F.length)])), (rf, .inl (cB, 4096, .inl ff))]) [0, 1, 2] rfl
            have hD9 := hD.sub (ws' := [(tf, .inr (7, [.ref hf, .ref hq, .ref hs, .ref hd, .ref hp, .ref hc, .long ln])), (hf, .inr (2, [.ref rf, .int (nI F.length)])), (rf, .inl (cB, 4096, .inl ff))]) [0, 1, 2] (by decide) rfl
            have hK9 := hK.sub (tys' := [(cB, .byte)]) [0] rfl
            rw [show Value.long ln = Value.long (ps_l ln (ps_v F b)) by rw [hno]; rfl] at hP9 hD9
            exact zz_zret hx hb hr hlocks d_Tf_readNumber_121 (by decide) hS (by first | exact Nat.le_refl _ | decide | omega | (dsimp only; omega)) (by first | exact Nat.le_refl _ | decide | omega | (dsimp only; omega)) () (by rw [hno]; rfl) hP9 hK9 hD9
      · skip
        have f_40 : F.length ≤ ps_k F := by rw [hk]; exact Nat.le_of_not_lt (fun z => c_40 (nI_lt (a := 1) z (by omega)))
        have hno : ps_v F b = none := ps_0 f_40
        refine lv_iconst (v := 0) hx hb d_Tf_readNumber_43 (by decide) ?_
        have hP9 := hP.sub (ws' := [(tf, .inr (7, [.ref hf, .ref hq, .ref hs, .ref hd, .ref hp, .ref hc, .long ln])), (hf, .inr (2, [.ref rf, .int (nI F.length)])), (rf, .inl (cB, 4096, .inl ff))]) [0, 1, 2] rfl
        have hD9 := hD.sub (ws' := [(tf, .inr (7, [.ref hf, .ref hq, .ref hs, .ref hd, .ref hp, .ref hc, .long ln])), (hf, .inr (2, [.ref rf, .int (nI F.length)])), (rf, .inl (cB, 4096, .inl ff))]) [0, 1, 2] (by decide) rfl
        have hK9 := hK.sub (tys' := [(cB, .byte)]) [0] rfl
        rw [show Value.long ln = Value.long (ps_l ln (ps_v F b)) by rw [hno]; rfl] at hP9 hD9
        exact zz_zret hx hb hr hlocks d_Tf_readNumber_44 (by decide) hS (by first | exact Nat.le_refl _ | decide | omega | (dsimp only; omega)) (by first | exact Nat.le_refl _ | decide | omega | (dsimp only; omega)) () (by rw [hno]; rfl) hP9 hK9 hD9
set_option maxHeartbeats 4000000 in
set_option maxRecDepth 100000 in
theorem c_Tf_parse (l : Launch) (dC : Nat → ClassId) (dI : Nat → Nat → Nat) (tf hf hq hs hd hp hc : Nat) (ln : Int64) (rf : Nat) (cB : ClassId) (ff : Nat → Int32) (F : List Nat) (b : Nat) (hLf : by_L F ff) (hcf : F.length ≤ 4096) (hb2 : 2 ≤ b) (hb36 : b ≤ 36) : zM_i (S := Unit) l y_Tf_parse w_Tf_parse { frames := 2, cells := 0, slots := 0, locals := 52 } (dC, dI) vwCl [.ref tf, .int (nI b)] [(tf, .inr (7, [.ref hf, .ref hq, .ref hs, .ref hd, .ref hp, .ref hc, .long ln])), (hf, .inr (2, [.ref rf, .int (nI F.length)])), (rf, .inl (cB, 4096, .inl ff))] [(cB, .byte)] (fun (r : Int32) (u : Unit) => r = by_z (ps_v F b).isSome) (fun u => [(tf, .inr (7, [.ref hf, .ref hq, .ref hs, .ref hd, .ref hp, .ref hc, .long (ps_l 0 (ps_v F b))])), (hf, .inr (2, [.ref rf, .int (nI (List.take 0 F).length)])), (rf, .inl (cB, 4096, .inl ff))]) (fun u => [(cB, .byte)]) 0 0 := by
  refine zz_enteri (cc := prog_1_method_12_code) (nL := 3) (ret := (some .boolean)) (by decide) rfl (Nat.le_of_ble_eq_true rfl) ?_
  intro p e s m below meth c A ls C0 hA hS hP hK hD hl
  obtain ⟨hx, hb, hml, hown, hg, hr, hlocks, hin⟩ := C0
  have hown : s.vm.findClass "TextForge" = some m.cls := hown
  have hP : va_P (dC, dI) vwCl [(tf, .inr (7, [.ref hf, .ref hq, .ref hs, .ref hd, .ref hp, .ref hc, .long ln])), (hf, .inr (2, [.ref rf, .int (nI F.length)])), (rf, .inl (cB, 4096, .inl ff))] s.heap := hP
  have hK : va_K (dC, dI) vwCl [(cB, .byte)] s := hK
  have hD : va_D A [(tf, .inr (7, [.ref hf, .ref hq, .ref hs, .ref hd, .ref hp, .ref hc, .long ln])), (hf, .inr (2, [.ref rf, .int (nI F.length)])), (rf, .inl (cB, 4096, .inl ff))] := hD
  have hl : lv_has ls 3 [(0, .ref tf), (1, .int (nI b))] := hl
  refine lv_iload_n hx hb d_Tf_parse_0 rfl (lv_at hl 1 rfl) ?_
  refine lv_iconst (v := 2) hx hb d_Tf_parse_1 (by decide) ?_
  refine lv_icmp_lt (tgt := 11) hx hb d_Tf_parse_2 (by decide) (fun c9 => by first | exact absurd c9 (nI_nlt (b := 2) hb2 (by omega)) | exact absurd (nI_nlt (b := 2) hb2 (by omega)) c9) (fun _ => ?_)
  refine lv_iload_n hx hb d_Tf_parse_5 rfl (lv_at hl 1 rfl) ?_
  refine lv_bipush (v := 36) hx hb d_Tf_parse_6 (by decide) ?_
  refine lv_icmp_le (tgt := 21) hx hb d_Tf_parse_8 (by decide) (fun _ => ?_) (fun c9 => by first | exact absurd c9 (nI_le (b := 36) hb36 (by decide)) | exact absurd (nI_le (b := 36) hb36 (by decide)) c9)
  refine lv_aload_n hx hb d_Tf_parse_21 rfl (lv_at hl 0 rfl) ?_
  refine lv_lconst (v := 0) hx hb d_Tf_parse_22 (by decide) ?_
  refine va_put (D := (dC, dI)) (ci := 7) (v := .long 0) (ty := .long) (C := "TextForge") (T := TX7) (N := 7) hx hb hg iwX7 tyX7 tyX7_ok nmX7 hown hK hP hD hS 0 rfl rfl 6 (by decide) (hg _ kw_137) (fun _ h9 => h9) rfl (by decide +kernel) rfl rfl (Nat.le_of_ble_eq_true rfl) d_Tf_parse_23 (fun H locs hP hD hS => ?_)
  have hP : va_P (dC, dI) vwCl [(tf, .inr (7, [.ref hf, .ref hq, .ref hs, .ref hd, .ref hp, .ref hc, .long 0])), (hf, .inr (2, [.ref rf, .int (nI F.length)])), (rf, .inl (cB, 4096, .inl ff))] H := hP
  have hD : va_D A [(tf, .inr (7, [.ref hf, .ref hq, .ref hs, .ref hd, .ref hp, .ref hc, .long 0])), (hf, .inr (2, [.ref rf, .int (nI F.length)])), (rf, .inl (cB, 4096, .inl ff))] := hD
  refine lv_aload_n hx hb d_Tf_parse_26 rfl (lv_at hl 0 rfl) ?_
  refine lv_iload_n hx hb d_Tf_parse_27 rfl (lv_at hl 1 rfl) ?_
  have hPc := hP.sub (ws' := [(tf, .inr (7, [.ref hf, .ref hq, .ref hs, .ref hd, .ref hp, .ref hc, .long 0])), (hf, .inr (2, [.ref rf, .int (nI F.length)])), (rf, .inl (cB, 4096, .inl ff))]) [0, 1, 2] rfl
  have hKc := hK.sub (tys' := [(cB, .byte)]) [0] rfl
  have hDc := hD.sub (ws' := [(tf, .inr (7, [.ref hf, .ref hq, .ref hs, .ref hd, .ref hp, .ref hc, .long 0])), (hf, .inr (2, [.ref rf, .int (nI F.length)])), (rf, .inl (cB, 4096, .inl ff))]) [0, 1, 2] (by decide) rfl
  have hFc := va_free (wc := [(tf, .inr (7, [.ref hf, .ref hq, .ref hs, .ref hd, .ref hp, .ref hc, .long 0])), (hf, .inr (2, [.ref rf, .int (nI F.length)])), (rf, .inl (cB, 4096, .inl ff))]) hD hS hA [0, 1, 2] rfl
  refine zz_calli (va_runV (As := [.int (nI b)]) (rest := []) ⟨hx, hb, hml, hown, hg⟩ (c_Tf_readNumber l dC dI tf hf hq hs hd hp hc 0 rf cB ff F b hLf hcf hb2 hb36 H.size) (cwV 1 hg (gi_V kw_668 kw_670 sw_9 kw_1 kw_671) rfl rfl rfl (by decide +kernel) ⟨Nat.le_of_ble_eq_true rfl, Nat.le_of_ble_eq_true rfl⟩) (zz_preV hPc hKc hDc _ (q0 := 0) (ci := 7) rfl rfl) rfl rfl hl.1 rfl (lv_room (Nat.le_of_ble_eq_true rfl)) d_Tf_parse_28 ⟨Nat.le_of_ble_eq_true rfl, Nat.le_of_ble_eq_true rfl⟩) hS hFc (fun u H1 k9 p9 d9 => va_join (wr := []) hP hD [0, 1, 2] [] rfl rfl (by decide) (by decide) k9 hFc p9 d9) (fun r_2 u H locs hw hP hD hK1 hS => ?_)
  obtain ⟨u_1, rfl⟩ : ∃ z, z = u := ⟨_, rfl⟩
  try dsimp only at hw
  have hP : va_P (dC, dI) vwCl [(tf, .inr (7, [.ref hf, .ref hq, .ref hs, .ref hd, .ref hp, .ref hc, .long (ps_l 0 (ps_v F b))])), (hf, .inr (2, [.ref rf, .int (nI F.length)])), (rf, .inl (cB, 4096, .inl ff))] H := hP
  have hD : va_D A [(tf, .inr (7, [.ref hf, .ref hq, .ref hs, .ref hd, .ref hp, .ref hc, .long (ps_l 0 (ps_v F b))])), (hf, .inr (2, [.ref rf, .int (nI F.length)])), (rf, .inl (cB, 4096, .inl ff))] := hD
  have hrr := hw
  refine lv_istore_n (lv' := [(2, .int r_2), (0, .ref tf), (1, .int (nI b))]) hx hb d_Tf_parse_31 rfl hl (by decide) rfl (fun ls hl => ?_)
  refine lv_aload_n hx hb d_Tf_parse_32 rfl (lv_at hl 1 rfl) ?_
  refine va_get (D := (dC, dI)) (ci := 7) (v := .ref hf) (C := "TextForge") (T := TX7) (N := 7) hx hb hg iwX7 hown hK hP 0 rfl rfl 0 (by decide) (hg _ kw_131) (fun _ h9 => h9) rfl d_Tf_parse_33 ?_
  refine lv_iconst (v := 0) hx hb d_Tf_parse_36 (by decide) ?_
  have hPc := hP.sub (ws' := [(hf, .inr (2, [.ref rf, .int (nI F.length)])), (rf, .inl (cB, 4096, .inl ff))]) [1, 2] rfl
  have hKc := hK.sub (tys' := [(cB, .byte)]) [0] rfl
  have hDc := hD.sub (ws' := [(hf, .inr (2, [.ref rf, .int (nI F.length)])), (rf, .inl (cB, 4096, .inl ff))]) [1, 2] (by decide) rfl
  have hFc := va_free (wc := [(hf, .inr (2, [.ref rf, .int (nI F.length)])), (rf, .inl (cB, 4096, .inl ff))]) hD hS hA [1, 2] rfl
  refine zz_callv (va_runV (As := [.int 0]) (rest := []) ⟨hx, hb, hml, hown, hg⟩ (c_By_cut l dC dI hf rf cB 4096 ff F 0 0 hLf hcf (by decide) rfl (by decide) H.size) (cwV 1 hg (gi_V kw_173 kw_174 kw_175 kw_2 kw_176) rfl rfl rfl (by decide +kernel) ⟨Nat.le_of_ble_eq_true rfl, Nat.le_of_ble_eq_true rfl⟩) (zz_preV hPc hKc hDc _ (q0 := 0) (ci := 2) rfl rfl) rfl rfl hl.1 rfl (lv_room (Nat.le_of_ble_eq_true rfl)) d_Tf_parse_37 ⟨Nat.le_of_ble_eq_true rfl, Nat.le_of_ble_eq_true rfl⟩) hS hFc (fun u H1 k9 p9 d9 => va_join (wr := [(tf, .inr (7, [.ref hf, .ref hq, .ref hs, .ref hd, .ref hp, .ref hc, .long (ps_l 0 (ps_v F b))]))]) hP hD [1, 2] [0] rfl rfl (by decide) (by decide) k9 hFc p9 d9) (fun u H locs hw hP hD hK1 hS => ?_)
  obtain ⟨f6, rfl⟩ : ∃ z, z = u := ⟨_, rfl⟩
  try dsimp only at hw
  have hP : va_P (dC, dI) vwCl [(tf, .inr (7, [.ref hf, .ref hq, .ref hs, .ref hd, .ref hp, .ref hc, .long (ps_l 0 (ps_v F b))])), (hf, .inr (2, [.ref rf, .int (nI (List.take 0 F).length)])), (rf, .inl (cB, 4096, .inl f6))] H := hP
  have hD : va_D A [(tf, .inr (7, [.ref hf, .ref hq, .ref hs, .ref hd, .ref hp, .ref hc, .long (ps_l 0 (ps_v F b))])), (hf, .inr (2, [.ref rf, .int (nI (List.take 0 F).length)])), (rf, .inl (cB, 4096, .inl f6))] := hD
  rw [hw] at hP hD
  have hP : va_P (dC, dI) vwCl [(tf, .inr (7, [.ref hf, .ref hq, .ref hs, .ref hd, .ref hp, .ref hc, .long (ps_l 0 (ps_v F b))])), (hf, .inr (2, [.ref rf, .int (nI (List.take 0 F).length)])), (rf, .inl (cB, 4096, .inl ff))] H := hP
  have hD : va_D A [(tf, .inr (7, [.ref hf, .ref hq, .ref hs, .ref hd, .ref hp, .ref hc, .long (ps_l 0 (ps_v F b))])), (hf, .inr (2, [.ref rf, .int (nI (List.take 0 F).length)])), (rf, .inl (cB, 4096, .inl ff))] := hD
  refine lv_iload_n hx hb d_Tf_parse_40 rfl (lv_at hl 0 rfl) ?_
  have hP9 := hP.sub (ws' := [(tf, .inr (7, [.ref hf, .ref hq, .ref hs, .ref hd, .ref hp, .ref hc, .long (ps_l 0 (ps_v F b))])), (hf, .inr (2, [.ref rf, .int (nI (List.take 0 F).length)])), (rf, .inl (cB, 4096, .inl ff))]) [0, 1, 2] rfl
  have hD9 := hD.sub (ws' := [(tf, .inr (7, [.ref hf, .ref hq, .ref hs, .ref hd, .ref hp, .ref hc, .long (ps_l 0 (ps_v F b))])), (hf, .inr (2, [.ref rf, .int (nI (List.take 0 F).length)])), (rf, .inl (cB, 4096, .inl ff))]) [0, 1, 2] (by decide) rfl
  have hK9 := hK.sub (tys' := [(cB, .byte)]) [0] rfl
  exact zz_zret hx hb hr hlocks d_Tf_parse_41 (by rw [hrr]; cases (ps_v F b).isSome <;> decide) hS (by first | exact Nat.le_refl _ | decide | omega | (dsimp only; omega)) (by first | exact Nat.le_refl _ | decide | omega | (dsimp only; omega)) () hrr hP9 hK9 hD9
