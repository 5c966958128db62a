/-! LAW: the state of class and reference side by side -/
abbrev Lf : Type := Nat × Nat × Nat × Nat × Nat × Nat × Nat × Nat × Nat × Nat × Nat × Nat × Nat × Nat × Nat × Nat × Nat × Nat × Nat × Nat × Nat × Nat × Nat × Nat × ClassId × ClassId × ClassId × ClassId × ClassId × ClassId × ClassId
abbrev Ls : Type := List Nat × List Nat × List Ag × List (Nat × Nat) × (Nat → Int32) × (Nat → Int32) × (Nat → Option Nat) × Nat × Bool × Bool × Bool × Nat × Nat × (Nat → Int32) × Int32 × Nat × Nat × Nat × (Nat → Int32) × (Nat → Int32) × Int64 × Int32 × Int32 × Int32 × Int32 × (Nat → Int32) × (Nat → Int32) × (Nat → Int64) × (Nat → Int32) × (Nat → Int32) × (Nat → Int32) × (Nat → Int32) × (Nat → Int32) × (Nat → Int32) × (Nat → Int32) × (Nat → Int64)
def cd_D (K : List (Nat × Nat)) (fp : Nat → Int32) : Prop := ∀ j, j < K.length → fp j = nI (K.getD j (0, 0)).2
def cb_C (K : List (Nat × Nat)) (fv xb : Nat → Int32) : Prop := ∀ j, j < K.length → ∃ o, cd_ok o ∧ fv j = ut_v o ∧ (K.getD j (0, 0)).1 = cd_v o ∧ xb j = nI (ut_bo o)
abbrev lw_ty (q : Lf) : List (ClassId × FieldType) := match q with
  | ⟨_, _, _, _, _, _, _, _, _, _, _, _, _, _, _, _, _, _, _, _, _, _, _, _, cB, cR, cI, eB, eI, eL, cO⟩ => [(cB, .byte), (cR, .object "TextForge$Argument"), (cI, .int), (eB, .byte), (eI, .int), (eL, .long), (cO, .long)]
abbrev lw_W (q : Lf) (z : Ls) : va_W := match q, z with
  | ⟨tf, hf, rf, hq, rq, hs, rs, hd, hp, hn, rn, hc, mo, qt, qk, qv, qw, qp, qr, qa, qc, ql, qb, ou, cB, cR, cI, eB, eI, eL, cO⟩, ⟨F, M, AL, K, ff, fq, fR, dq, bm, bp, bz, wd, v0, fN, kN, rv, rp, nv, fv, fp, ln, th, pt, la, ca, xt, xk, xv, xw, xo, xr, xa, xc, xl, xb, go⟩ => ([(tf, .inr (7, [.ref hf, .ref hq, .ref hs, .ref hd, .ref hp, .ref hc, .long ln])), (hf, .inr (2, [.ref rf, .int (nI F.length)])), (rf, .inl (cB, 4096, .inl ff)), (hq, .inr (2, [.ref rq, .int (nI M.length)])), (rq, .inl (cB, 4195, .inl fq)), (hs, .inr (1, [.ref rs, .int (nI AL.length), .int (nI 0)])), (rs, .inl (cR, 16, .inr (.inr (.inr (.inr fR))))), (hd, .inr (4, [.int (nI dq), .int (by_z bm), .int (by_z bp), .int (by_z bz), .int (nI wd), .int (nI v0)])), (hp, .inr (6, [.ref hn])), (hn, .inr (5, [.ref rn, .int kN])), (rn, .inl (cB, 64, .inl fN)), (hc, .inr (3, [.ref rv, .ref rp, .int (nI K.length)])), (rv, .inl (cI, nv, .inl fv)), (rp, .inl (cI, nv, .inl fp)), (mo, .inr (8, [.int th, .int (nI F.length), .ref qt, .int (nI AL.length), .ref qk, .ref qv, .ref qw, .ref qp, .int (nI M.length), .ref qr, .int pt, .ref qa, .long ln, .int (nI K.length), .ref qc, .ref ql, .ref qb, .int la, .int ca])), (qt, .inl (eB, 4096, .inl xt)), (qk, .inl (eI, 16, .inl xk)), (qv, .inl (eL, 16, .inr (.inl xv))), (qw, .inl (eI, 16, .inl xw)), (qp, .inl (eB, 65536, .inl xo)), (qr, .inl (eB, 4096, .inl xr)), (qa, .inl (eB, 16400, .inl xa)), (qc, .inl (eI, 4096, .inl xc)), (ql, .inl (eI, 4096, .inl xl)), (qb, .inl (eI, 4096, .inl xb)), (ou, .inl (cO, 1, .inr (.inl go)))] ++ (ag_W cB AL))
def lw_R (z : Ls) : Prop := match z with
  | ⟨F, M, AL, K, ff, fq, fR, _, _, _, _, _, _, _, _, _, _, nv, fv, fp, _, _, _, _, _, xt, xk, xv, xw, xo, xr, _, xc, xl, xb, _⟩ => by_L F ff ∧ by_L F xt ∧ F.length ≤ 4096 ∧ by_L M fq ∧ by_L M xr ∧ M.length ≤ 4096 ∧ ag_R AL fR ∧ (∀ g ∈ AL, ag_ok g) ∧ AL.length ≤ 16 ∧ mo_A AL xk xv xw xo ∧ cd_D K fp ∧ cd_A K xc xl ∧ cb_C K fv xb ∧ K.length ≤ nv ∧ nv < 1000000 ∧ K.length ≤ 4096
abbrev lw_l (q : Lf) (b t : Nat) : List (Nat × Value) := match q with
  | ⟨tf, _, _, _, _, _, _, _, _, _, _, _, mo, _, _, _, _, _, _, _, _, _, _, ou, _⟩ => [(0, .ref b), (1, .ref tf), (2, .ref mo), (3, .ref ou), (4, .int (nI (6 * t)))]
def lw_I (dC : Nat → ClassId) (dI : Nat → Nat → Nat) (A : Nat → Prop) (s : State) (b : Nat) (q : Lf) (z : Ls) (t : Nat) (H : Heap) (locs : List Loc) (ls : Array Slot) : Prop :=
  va_P (dC, dI) vwCl (lw_W q z) H ∧ va_D A (lw_W q z) ∧ va_S A s.heap H locs ∧ lv_has ls 7 (lw_l q b t) ∧ lw_R z
def lw_G (p : Program) (s : State) (m : MethodId) (meth : Method) (c : Code) (l : Launch) (dC : Nat → ClassId) (dI : Nat → Nat → Nat) (ad : Nat → Nat) (b L : Nat) (xs : Nat → Int32) (A : Nat → Prop) (q : Lf) : Prop :=
  p.tables.exec = Jvm.exec ∧ c.code = code ∧ meth.sig.returnType = ret ∧ c.maxLocals = 7 ∧ s.vm.findClass "TextForgeLaw" = some m.cls ∧ (∀ w ∈ gw, w.before #[Value.ref b] s = true) ∧ va_X b L xs s s.heap ∧ b < s.heap.size ∧ ¬ A b ∧ (∀ q : Nat, s.heap.size ≤ q → A q) ∧ (∀ q : Nat, A q → s.heap.size ≤ q) ∧ meth.locks = false ∧ kx ad A s s.heap ∧ l.flags = pinnedFlags ++ [noTraceFlag] ∧ va_K (dC, dI) vwCl (lw_ty q) s
theorem fd_lw {F : List Nat} {a b c d e : Int32} (h : F.length ≤ 4096) : (fd_l F a b c d e).length ≤ 4096 := by
  unfold fd_l
  split
  · rw [List.length_append]; have : (fd_5 a b c d e).length = 20 := rfl; omega
  · exact h
theorem en_len {F : List Nat} {v : Int32} (h : F.length ≤ 4096) : (en_l F v).length ≤ 4096 := by
  unfold en_l
  split
  · have := List.length_take_le' v.toNatClampNeg F; omega
  · exact h
theorem en_by {F : List Nat} {v : Int32} {f : Nat → Int32} (h : by_L F f) : by_L (en_l F v) f := by
  unfold en_l
  split
  · exact by_take h _
  · exact h
theorem lw_31 (x : Int32) : ∃ k, k < 32 ∧ x &&& 31 = nI k := by
  obtain ⟨n, hn, e⟩ := wb_of32 x
  refine ⟨n % 32, Nat.mod_lt _ (by decide), ?_⟩
  rw [e]; exact pk_andN hn 5 (by decide)
theorem lw_k {k : Nat} (h : k < 32) : k = 0 ∨ k = 1 ∨ k = 2 ∨ k = 3 ∨ k = 4 ∨ k = 5 ∨ k = 6 ∨ k = 7 ∨ k = 8 ∨ k = 9 ∨ k = 10 ∨ k = 11 ∨ k = 12 ∨ k = 13 ∨ k = 14 ∨ k = 15 ∨ k = 16 ∨ (17 ≤ k ∧ k < 32) := by omega
theorem lw_c {t L : Nat} (hL : L ≤ 3072) (ht : 6 * t ≤ L + 5) (h : ¬ nI L - 6 < nI (6 * t)) : 6 * t + 6 ≤ L := by
  rw [Int32.lt_iff_toInt_lt] at h
  have h1 : (nI L).toInt = L := nI_toInt (by omega)
  have h2 : (nI (6 * t)).toInt = ((6 * t : Nat) : Int) := nI_toInt (by omega)
  have h3 : (nI L - 6).toInt = (L : Int) - 6 := by
    rw [Int32.toInt_sub, h1]
    have h6 : (6 : Int32).toInt = 6 := rfl
    rw [h6]
    exact Int.bmod_eq_of_le (by omega) (by omega)
  rw [h2, h3] at h
  omega
theorem ag_Rpush {AL : List Ag} {fR : Nat → Option Nat} {g : Ag} {a : Nat} (h : ag_R AL fR) (ha : a = g.1) : ag_R (AL ++ [g]) (va_up fR AL.length (some a)) := by
  intro j x hx
  unfold va_up
  rw [List.getElem?_append] at hx
  by_cases e : j < AL.length
  · rw [if_pos e] at hx; rw [if_neg (by omega)]; exact h j x hx
  · rw [if_neg e] at hx
    have hj : j - AL.length = 0 := by
      by_cases z : j - AL.length = 0
      · exact z
      · rw [List.getElem?_eq_none (by simp; omega)] at hx; exact absurd hx (by simp)
    rw [hj] at hx
    have : g = x := by simpa using hx
    rw [if_pos (by omega), ha, this]
theorem ag_okpush {AL : List Ag} {g : Ag} (h : ∀ x ∈ AL, ag_ok x) (hg : ag_ok g) : ∀ x ∈ AL ++ [g], ag_ok x := by
  intro x hx
  rcases List.mem_append.mp hx with z | z
  · exact h x z
  · rw [List.mem_singleton.mp z]; exact hg
/-- another argument with the reference -/
theorem mo_Apush {AL : List Ag} {xk : Nat → Int32} {xv : Nat → Int64} {xw xo : Nat → Int32} {g : Ag} {k1 : Int32} {x1 : Int64} {w1 : Int32} {yo : Nat → Int32} (h : mo_A AL xk xv xw xo) (hold : ∀ q, q < 4096 * AL.length → yo q = xo q) (hg : mo_G g AL.length (upd xk AL.length k1) (vp_updL xv AL.length x1) (upd xw AL.length w1) yo) : mo_A (AL ++ [g]) (upd xk AL.length k1) (vp_updL xv AL.length x1) (upd xw AL.length w1) yo := by
  intro j x hx
  rw [List.getElem?_append] at hx
  by_cases e : j < AL.length
  · rw [if_pos e] at hx
    have h1 := h j x hx
    obtain ⟨a, k, y, b, r, f, B⟩ := x
    obtain ⟨⟨h2, h3, h4⟩, h5⟩ := h1
    refine ⟨⟨?_, ?_, fun h3k => ?_⟩, h5⟩
    · rw [pk_un (by omega)]; exact h2
    · rw [show vp_updL xv AL.length x1 j = xv j from if_neg (by omega)]; exact h3
    · obtain ⟨h6, h7, h8⟩ := h4 h3k
      refine ⟨by rw [pk_un (by omega)]; exact h6, h7, fun t ht => ?_⟩
      obtain ⟨h9, h10⟩ := h8 t ht
      exact ⟨h9, by rw [hold _ (by omega)]; exact h10⟩
  · rw [if_neg e] at hx
    have hj : j - AL.length = 0 := by
      by_cases z : j - AL.length = 0
      · exact z
      · rw [List.getElem?_eq_none (by simp; omega)] at hx; exact absurd hx (by simp)
    rw [hj] at hx
    have hgx : g = x := by simpa using hx
    rw [show j = AL.length by omega, ← hgx]; exact hg
theorem vpL_s (f : Nat → Int64) (n : Nat) (x : Int64) : vp_updL f n x n = x := if_pos rfl
theorem mo_gn {a b r j k : Nat} {f : Nat → Int32} {x : Int64} {xk : Nat → Int32} {xv : Nat → Int64} {xw xo : Nat → Int32} {w : Int32} (hk : k ≠ 3) (ho : mo_o k x) : mo_G (a, k, x, b, r, f, []) j (upd xk j (mo_k k x)) (vp_updL xv j x) (upd xw j w) xo :=
  ⟨⟨pk_us, vpL_s _ _ _, fun h => absurd h hk⟩, ho⟩
theorem nm_ko {sg : Int32} {x : Int64} : mo_k (nm_k sg) x = nI (nm_k sg) ∧ (nm_k sg = 0 ∨ nm_k sg = 1) := by
  have h : nm_k sg = 0 ∨ nm_k sg = 1 := by unfold nm_k; split <;> omega
  exact ⟨if_neg (by omega), h⟩
theorem nm_to (sg : Int32) : nm_t sg = 0 ∨ nm_t sg = 1 := by
  unfold nm_t
  split
  · exact Or.inl rfl
  · exact Or.inr rfl
theorem th_j {v : Int32} (h1 : ¬ v < -1) (h2 : v ≤ 8) : ∃ j, j < 10 ∧ v = nI j - 1 := by
  rw [Int32.lt_iff_toInt_lt] at h1
  rw [Int32.le_iff_toInt_le] at h2
  have e1 : (-1 : Int32).toInt = -1 := rfl
  have e2 : (8 : Int32).toInt = 8 := rfl
  rw [e1] at h1; rw [e2] at h2
  refine ⟨(v.toInt + 1).toNat, by omega, ?_⟩
  apply Int32.toInt_inj.mp
  have h3 : (nI (v.toInt + 1).toNat).toInt = v.toInt + 1 := by rw [nI_toInt (by omega)]; omega
  rw [Int32.toInt_sub, h3]
  have e3 : (1 : Int32).toInt = 1 := rfl
  rw [e3]
  have h4 := v.toInt_le
  have h5 := v.le_toInt
  rw [show v.toInt + 1 - 1 = v.toInt by omega]
  exact (Int.bmod_eq_of_le (by omega) (by omega)).symm
theorem th_k {v : Int32} (h1 : ¬ v < -1) (h2 : v ≤ 8) : mk_t v = mo_k 4 v.toInt64 := by
  obtain ⟨j, hj, e⟩ := th_j h1 h2
  rw [e]
  rcases ar_j hj with rfl | rfl | rfl | rfl | rfl | rfl | rfl | rfl | rfl | rfl <;> decide +kernel
theorem th_o {v : Int32} (h1 : ¬ v < -1) (h2 : v ≤ 8) : mo_o 4 v.toInt64 := by
  obtain ⟨j, hj, e⟩ := th_j h1 h2
  exact Or.inr (Or.inr (Or.inr ⟨rfl, j, hj, by rw [e]⟩))
theorem th_g {a b r : Nat} {f : Nat → Int32} {v : Int32} (h1 : ¬ v < -1) (h2 : v ≤ 8) : ag_ok (a, 4, v.toInt64, b, r, f, []) := by
  obtain ⟨j, hj, e⟩ := th_j h1 h2
  exact Or.inr (Or.inr (Or.inr ⟨rfl, j, hj, by rw [e]⟩))
theorem mo_gt {a b r j : Nat} {f0 xk : Nat → Int32} {xv : Nat → Int64} {xw xo xt : Nat → Int32} {F : List Nat} (hF : F.length ≤ 4096) (hL : by_L F xt) (hc : ∀ t, t < F.length → xo (4096 * j + t) = xt t) : mo_G (a, 3, 0, b, r, f0, F) j (upd xk j 3) (vp_updL xv j 0) (upd xw j (nI F.length)) xo :=
  ⟨⟨pk_us, vpL_s _ _ _, fun _ => ⟨pk_us, hF, fun t ht => ⟨(hL t ht).1, by rw [hc t ht]; exact (hL t ht).2⟩⟩⟩, Or.inr (Or.inl rfl)⟩
theorem ag_R0 (fR : Nat → Option Nat) : ag_R [] fR := fun j g h => absurd h (by simp)
theorem ag_ok0 : ∀ g ∈ ([] : List Ag), ag_ok g := fun g h => absurd h List.not_mem_nil
theorem mo_A0 (a : Nat → Int32) (b : Nat → Int64) (c d : Nat → Int32) : mo_A [] a b c d := fun j g h => absurd h (by simp)
theorem lc_e {x y : Int64} (h : x = y) : lg_cmp x y = 0 := (lg_cmp_eq x y).mpr h
theorem lw_cd {K : List (Nat × Nat)} {fp xc xl xb : Nat → Int32} {j w : Nat} {o : Option Nat} (h1 : cd_D K fp) (h2 : cd_A K xc xl) (hj : j < K.length) (hv : (K.getD j (0, 0)).1 = cd_v o) (hx : xb j = nI (ut_bo o)) : (if w = 0 then nI (cd_v o) else if w = 1 then fp j else nI (ut_bo o)) = (if w = 0 then xc j else if w = 1 then xl j else xb j) := by
  rw [(h2 j hj).1, (h2 j hj).2, h1 j hj, hv, hx]
theorem cd_Dof {L : List Nat} {K : List (Nat × Nat)} {fv fp : Nat → Int32} (h : cd_T L K fv fp) : cd_D K fp := fun j hj => (h j hj).2.2
theorem cd_cb {L : List Nat} {K : List (Nat × Nat)} {fv fp xb : Nat → Int32} (h : cd_T L K fv fp) (h2 : cd_B L K xb) : cb_C K fv xb := fun j hj => ⟨_, ⟨_, _, rfl⟩, (h j hj).1, (h j hj).2.1, h2 j hj⟩
theorem lw_ix {v : Int32} {n : Nat} (hn : n < 2 ^ 31) (h1 : ¬ v < 0) (h2 : ¬ nI n ≤ v) : ∃ j, j < n ∧ v = nI j := by
  obtain ⟨k, hk, e⟩ := nI_of (x := v) h1
  exact ⟨k, Nat.lt_of_not_le (fun z => h2 (by rw [e]; exact nI_le z hk)), e⟩
theorem lw_ix2 {v : Int32} {n : Nat} (hn : n < 2 ^ 31) (h1 : ¬ v < 0) (h2 : v ≤ nI n) : ∃ j, j ≤ n ∧ v = nI j := by
  obtain ⟨k, hk, e⟩ := nI_of (x := v) h1
  exact ⟨k, (nI_leI hk hn).mp (by rw [← e]; exact h2), e⟩
theorem lw_ba {v : Int32} (h1 : ¬ v < 2) (h2 : v ≤ 36) : ∃ b, 2 ≤ b ∧ b ≤ 36 ∧ v = nI b := by
  have h0 : ¬ v < 0 := fun z => h1 (Int32.lt_iff_toInt_lt.mpr (by have := Int32.lt_iff_toInt_lt.mp z; have e0 : (0 : Int32).toInt = 0 := rfl; have e2 : (2 : Int32).toInt = 2 := rfl; omega))
  obtain ⟨k, hk, e⟩ := lw_ix2 (n := 36) (by decide) h0 h2
  exact ⟨k, Nat.le_of_not_lt (fun z => h1 (by rw [e]; exact nI_lt (b := 2) z (by decide))), hk, e⟩
theorem mo_g2 {a b r j : Nat} {f : Nat → Int32} {x : Int64} {xk : Nat → Int32} {xv : Nat → Int64} {xw xo : Nat → Int32} {w : Int32} (ho : x = 0 ∨ x = 1) : mo_G (a, 2, x, b, r, f, []) j (upd xk j 2) (vp_updL xv j x) (upd xw j w) xo :=
  ⟨⟨(pk_us : upd xk j 2 j = 2).trans (show (2 : Int32) = mo_k 2 x from rfl), vpL_s _ _ _, fun h => absurd h (by decide)⟩, Or.inr (Or.inr (Or.inl ⟨rfl, ho⟩))⟩
theorem lw_mkR {F M : List Nat} {AL : List Ag} {K : List (Nat × Nat)} {ff fq : Nat → Int32} {fR : Nat → Option Nat} {dq : Nat} {bm bp bz : Bool} {wd v0 : Nat} {fN : Nat → Int32} {kN : Int32} {rv rp nv : Nat} {fv fp : Nat → Int32} {ln : Int64} {th pt la ca : Int32} {xt xk : Nat → Int32} {xv : Nat → Int64} {xw xo xr xa xc xl xb : Nat → Int32} {go : Nat → Int64}
    (h1 : by_L F ff) (h2 : by_L F xt) (h3 : F.length ≤ 4096) (h4 : by_L M fq) (h5 : by_L M xr) (h6 : M.length ≤ 4096) (h7 : ag_R AL fR) (h8 : ∀ g ∈ AL, ag_ok g) (h9 : AL.length ≤ 16) (h10 : mo_A AL xk xv xw xo) (h11 : cd_D K fp) (h12 : cd_A K xc xl) (h13 : cb_C K fv xb) (h14 : K.length ≤ nv) (h15 : nv < 1000000) (h16 : K.length ≤ 4096) :
    lw_R ⟨F, M, AL, K, ff, fq, fR, dq, bm, bp, bz, wd, v0, fN, kN, rv, rp, nv, fv, fp, ln, th, pt, la, ca, xt, xk, xv, xw, xo, xr, xa, xc, xl, xb, go⟩ := ⟨h1, h2, h3, h4, h5, h6, h7, h8, h9, h10, h11, h12, h13, h14, h15, h16⟩
def R_law : String := "TextForgeLaw"
def lw_P (b : Addr) (xs : List Int32) (args : Array Value) (s : State) : Prop := args = #[.ref b] ∧ s.IntsAt b xs ∧ xs.length ≤ 3072 ∧ (Jvm.Cond.and given_1 narrow_1).before args s = true
def lw_Q (_ : Array Value) (s : State) (o : Outcome) (t : State) : Prop := o = .returned (some (.int 1)) ∧ Framed s o t [] 601024 7293034
def lw_Z (below : List Frame) (a : Array Value) (s : State) : State → Prop := fun t => ∃ o, t.status = .running ∧ Ended t below o ∧ lw_Q a s o t
/-- the law's own end, with 1 on the stack, nothing written that was there before, its room as the claim has it -/
theorem lw_ret {p : Program} {l : Launch} {e : Env} {s : State} {m : MethodId} {below : List Frame} {meth : Method} {c : Code} {b : Nat} (hx : p.tables.exec = Jvm.exec) (hb : c.code = code) (hr : meth.sig.returnType = ret) (hlocks : meth.locks = false) {pc : Nat} {H : Heap} {ls : Array Slot} (hdg : decode code pc = .ok (.ireturn, 1)) : W p l e room_1 s m #[Value.ref b] below meth c H [] 601024 7293034 (lw_Z below #[Value.ref b] s) (F0 m pc ls [.int 1]) := by
  intro T hT X
  obtain ⟨fs, hret, hrun, hended, hW, hframe⟩ := X.leave (v := some (.int 1)) (hlocks := hlocks) (fun h => by rw [hr] at h; cases h)
  have hmeth' : T.vm.method? m = some meth := X.method'
  refine ⟨T.setFrames fs, ?_, .returned (some (.int 1)), hrun, hended, rfl, ⟨_, rfl⟩, hW, hframe⟩
  jvm_step X.here [X.here.top, hx, hb, hdg, hmeth', hr, ret, narrow_b1]
  (try refine ⟨rfl, ?_⟩); (try refine ⟨rfl, ?_⟩)
  first | (intro acts; rw [hret _ acts rfl rfl rfl]) | rw [hret _ _ rfl rfl rfl]
  exact Steps.refl _
/-- what holds at the law's entry: the machine, the code, the tables' words (any of lw_tbl by 'hts w (by decide +kernel)'), the script of L ints xs at the cell b, what the Statement gives of the start (any of its parts by flat_of_before) -/
def lw_At (p : Program) (s : State) (m : MethodId) (meth : Method) (c : Code) (b L : Nat) (xs : Nat → Int32) : Prop :=
  p.tables.exec = Jvm.exec ∧ c.code = code ∧ meth.sig.returnType = ret ∧ c.maxLocals = 7 ∧ s.vm.findClass R_law = some m.cls ∧ (∀ w ∈ lw_tbl, w.before #[Value.ref b] s = true) ∧ va_X b L xs s s.heap ∧ b < s.heap.size ∧ meth.locks = false ∧ (Jvm.Cond.and given_1 narrow_1).before #[Value.ref b] s = true
theorem kw_514 : Cond.codeWith ⟨"TextForgeLaw", "number", "(LTextForge;JZ[J)I"⟩ method_3_code 6 (some .int) [(0, 11, 14, 13)] ∈ gw := List.mem_filter.mpr ⟨tw_514, by decide +kernel⟩
theorem kw_617 : Cond.codeWith ⟨"TextForgeLaw", "truth", "(LTextForge;Z[J)I"⟩ method_4_code 4 (some .int) [(0, 9, 12, 13)] ∈ gw := List.mem_filter.mpr ⟨tw_617, by decide +kernel⟩
theorem kw_624 : Cond.codeWith ⟨"TextForgeLaw", "text", "(LTextForge;[J)I"⟩ method_5_code 3 (some .int) [(0, 8, 11, 13)] ∈ gw := List.mem_filter.mpr ⟨tw_624, by decide +kernel⟩
theorem kw_638 : Cond.codeWith ⟨"TextForgeLaw", "thing", "(LTextForge;I[J)I"⟩ method_6_code 4 (some .int) [(0, 9, 12, 27), (0, 9, 15, 13)] ∈ gw := List.mem_filter.mpr ⟨tw_638, by decide +kernel⟩
theorem kw_662 : Cond.codeWith ⟨"TextForgeLaw", "parse", "(LTextForge;I[J)I"⟩ method_7_code 4 (some .int) [(0, 16, 19, 27)] ∈ gw := List.mem_filter.mpr ⟨tw_662, by decide +kernel⟩
theorem kw_679 : Cond.codeWith ⟨"TextForgeLaw", "code", "(LTextForge;II[J)I"⟩ method_8_code 5 (some .int) [(0, 10, 13, 37)] ∈ gw := List.mem_filter.mpr ⟨tw_679, by decide +kernel⟩
theorem kw_713 : Cond.codeWith ⟨"TextForgeLaw", "byteOf", "(LTextForge;I[J)I"⟩ method_9_code 4 (some .int) [(0, 9, 12, 37)] ∈ gw := List.mem_filter.mpr ⟨tw_713, by decide +kernel⟩
theorem d_La_law_0 : decode code 0 = .ok (.new 8, 3) := by decide +kernel
theorem d_La_law_3 : decode code 3 = .ok (.dup, 1) := by decide +kernel
theorem d_La_law_4 : decode code 4 = .ok (.invokespecial 42, 3) := by decide +kernel
theorem d_La_law_7 : decode code 7 = .ok (.astore_n 1, 1) := by decide +kernel
theorem d_La_law_8 : decode code 8 = .ok (.new 43, 3) := by decide +kernel
theorem d_La_law_11 : decode code 11 = .ok (.dup, 1) := by decide +kernel
theorem d_La_law_12 : decode code 12 = .ok (.invokespecial 45, 3) := by decide +kernel
theorem d_La_law_15 : decode code 15 = .ok (.astore_n 2, 1) := by decide +kernel
theorem d_La_law_16 : decode code 16 = .ok (.iconst 1, 1) := by decide +kernel
theorem d_La_law_17 : decode code 17 = .ok (.newarray .long, 2) := by decide +kernel
theorem d_La_law_19 : decode code 19 = .ok (.astore_n 3, 1) := by decide +kernel
theorem d_La_law_20 : decode code 20 = .ok (.iconst 0, 1) := by decide +kernel
theorem d_La_law_21 : decode code 21 = .ok (.istore 4, 2) := by decide +kernel
theorem d_La_law_23 : decode code 23 = .ok (.iload 4, 2) := by decide +kernel
theorem d_La_law_25 : decode code 25 = .ok (.aload_n 0, 1) := by decide +kernel
theorem d_La_law_26 : decode code 26 = .ok (.arraylength, 1) := by decide +kernel
theorem d_La_law_27 : decode code 27 = .ok (.bipush 6, 2) := by decide +kernel
theorem d_La_law_29 : decode code 29 = .ok (.isub, 1) := by decide +kernel
theorem d_La_law_30 : decode code 30 = .ok (.if_icmp .gt 816, 3) := by decide +kernel
theorem d_La_law_33 : decode code 33 = .ok (.aload_n 0, 1) := by decide +kernel
theorem d_La_law_34 : decode code 34 = .ok (.iload 4, 2) := by decide +kernel
theorem d_La_law_36 : decode code 36 = .ok (.iaload, 1) := by decide +kernel
theorem d_La_law_37 : decode code 37 = .ok (.bipush 31, 2) := by decide +kernel
theorem d_La_law_39 : decode code 39 = .ok (.iand, 1) := by decide +kernel
theorem d_La_law_40 : decode code 40 = .ok (.tableswitch 800 0 16 #[84, 157, 182, 298, 370, 414, 470, 481, 494, 535, 548, 611, 625, 650, 663, 731, 744], 84) := by decide +kernel
theorem d_La_law_124 : decode code 124 = .ok (.aload_n 1, 1) := by decide +kernel
theorem d_La_law_125 : decode code 125 = .ok (.aload_n 0, 1) := by decide +kernel
theorem d_La_law_126 : decode code 126 = .ok (.iload 4, 2) := by decide +kernel
theorem d_La_law_128 : decode code 128 = .ok (.iconst 1, 1) := by decide +kernel
theorem d_La_law_129 : decode code 129 = .ok (.iadd, 1) := by decide +kernel
theorem d_La_law_130 : decode code 130 = .ok (.iaload, 1) := by decide +kernel
theorem d_La_law_131 : decode code 131 = .ok (.aload_n 0, 1) := by decide +kernel
theorem d_La_law_132 : decode code 132 = .ok (.iload 4, 2) := by decide +kernel
theorem d_La_law_134 : decode code 134 = .ok (.iconst 2, 1) := by decide +kernel
theorem d_La_law_135 : decode code 135 = .ok (.iadd, 1) := by decide +kernel
theorem d_La_law_136 : decode code 136 = .ok (.iaload, 1) := by decide +kernel
theorem d_La_law_137 : decode code 137 = .ok (.aload_n 0, 1) := by decide +kernel
theorem d_La_law_138 : decode code 138 = .ok (.iload 4, 2) := by decide +kernel
theorem d_La_law_140 : decode code 140 = .ok (.iconst 3, 1) := by decide +kernel
theorem d_La_law_141 : decode code 141 = .ok (.iadd, 1) := by decide +kernel
theorem d_La_law_142 : decode code 142 = .ok (.iaload, 1) := by decide +kernel
theorem d_La_law_143 : decode code 143 = .ok (.aload_n 0, 1) := by decide +kernel
theorem d_La_law_144 : decode code 144 = .ok (.iload 4, 2) := by decide +kernel
theorem d_La_law_146 : decode code 146 = .ok (.iconst 4, 1) := by decide +kernel
theorem d_La_law_147 : decode code 147 = .ok (.iadd, 1) := by decide +kernel
theorem d_La_law_148 : decode code 148 = .ok (.iaload, 1) := by decide +kernel
theorem d_La_law_149 : decode code 149 = .ok (.aload_n 0, 1) := by decide +kernel
theorem d_La_law_150 : decode code 150 = .ok (.iload 4, 2) := by decide +kernel
theorem d_La_law_152 : decode code 152 = .ok (.iconst 5, 1) := by decide +kernel
theorem d_La_law_153 : decode code 153 = .ok (.iadd, 1) := by decide +kernel
theorem d_La_law_154 : decode code 154 = .ok (.iaload, 1) := by decide +kernel
theorem d_La_law_155 : decode code 155 = .ok (.invokevirtual 46, 3) := by decide +kernel
theorem d_La_law_158 : decode code 158 = .ok (.aload_n 2, 1) := by decide +kernel
theorem d_La_law_159 : decode code 159 = .ok (.aload_n 0, 1) := by decide +kernel
theorem d_La_law_160 : decode code 160 = .ok (.iload 4, 2) := by decide +kernel
theorem d_La_law_162 : decode code 162 = .ok (.iconst 1, 1) := by decide +kernel
theorem d_La_law_163 : decode code 163 = .ok (.iadd, 1) := by decide +kernel
theorem d_La_law_164 : decode code 164 = .ok (.iaload, 1) := by decide +kernel
theorem d_La_law_165 : decode code 165 = .ok (.aload_n 0, 1) := by decide +kernel
theorem d_La_law_166 : decode code 166 = .ok (.iload 4, 2) := by decide +kernel
theorem d_La_law_168 : decode code 168 = .ok (.iconst 2, 1) := by decide +kernel
theorem d_La_law_169 : decode code 169 = .ok (.iadd, 1) := by decide +kernel
theorem d_La_law_170 : decode code 170 = .ok (.iaload, 1) := by decide +kernel
theorem d_La_law_171 : decode code 171 = .ok (.aload_n 0, 1) := by decide +kernel
theorem d_La_law_172 : decode code 172 = .ok (.iload 4, 2) := by decide +kernel
theorem d_La_law_174 : decode code 174 = .ok (.iconst 3, 1) := by decide +kernel
theorem d_La_law_175 : decode code 175 = .ok (.iadd, 1) := by decide +kernel
theorem d_La_law_176 : decode code 176 = .ok (.iaload, 1) := by decide +kernel
theorem d_La_law_177 : decode code 177 = .ok (.aload_n 0, 1) := by decide +kernel
theorem d_La_law_178 : decode code 178 = .ok (.iload 4, 2) := by decide +kernel
theorem d_La_law_180 : decode code 180 = .ok (.iconst 4, 1) := by decide +kernel
theorem d_La_law_181 : decode code 181 = .ok (.iadd, 1) := by decide +kernel
theorem d_La_law_182 : decode code 182 = .ok (.iaload, 1) := by decide +kernel
theorem d_La_law_183 : decode code 183 = .ok (.aload_n 0, 1) := by decide +kernel
theorem d_La_law_184 : decode code 184 = .ok (.iload 4, 2) := by decide +kernel
theorem d_La_law_186 : decode code 186 = .ok (.iconst 5, 1) := by decide +kernel
theorem d_La_law_187 : decode code 187 = .ok (.iadd, 1) := by decide +kernel
theorem d_La_law_188 : decode code 188 = .ok (.iaload, 1) := by decide +kernel
theorem d_La_law_189 : decode code 189 = .ok (.invokevirtual 50, 3) := by decide +kernel
theorem d_La_law_192 : decode code 192 = .ok (.if_icmp .eq 648, 3) := by decide +kernel
theorem d_La_law_195 : decode code 195 = .ok (.iconst 0, 1) := by decide +kernel
theorem d_La_law_196 : decode code 196 = .ok (.ireturn, 1) := by decide +kernel
theorem d_La_law_197 : decode code 197 = .ok (.aload_n 1, 1) := by decide +kernel
theorem d_La_law_198 : decode code 198 = .ok (.aload_n 0, 1) := by decide +kernel
theorem d_La_law_199 : decode code 199 = .ok (.iload 4, 2) := by decide +kernel
theorem d_La_law_201 : decode code 201 = .ok (.iconst 1, 1) := by decide +kernel
theorem d_La_law_202 : decode code 202 = .ok (.iadd, 1) := by decide +kernel
theorem d_La_law_203 : decode code 203 = .ok (.iaload, 1) := by decide +kernel
theorem d_La_law_204 : decode code 204 = .ok (.invokevirtual 51, 3) := by decide +kernel
theorem d_La_law_207 : decode code 207 = .ok (.aload_n 2, 1) := by decide +kernel
theorem d_La_law_208 : decode code 208 = .ok (.aload_n 0, 1) := by decide +kernel
theorem d_La_law_209 : decode code 209 = .ok (.iload 4, 2) := by decide +kernel
theorem d_La_law_211 : decode code 211 = .ok (.iconst 1, 1) := by decide +kernel
theorem d_La_law_212 : decode code 212 = .ok (.iadd, 1) := by decide +kernel
theorem d_La_law_213 : decode code 213 = .ok (.iaload, 1) := by decide +kernel
theorem d_La_law_214 : decode code 214 = .ok (.invokevirtual 54, 3) := by decide +kernel
theorem d_La_law_217 : decode code 217 = .ok (.if_icmp .eq 623, 3) := by decide +kernel
theorem d_La_law_220 : decode code 220 = .ok (.iconst 0, 1) := by decide +kernel
theorem d_La_law_221 : decode code 221 = .ok (.ireturn, 1) := by decide +kernel
theorem d_La_law_222 : decode code 222 = .ok (.aload_n 1, 1) := by decide +kernel
theorem d_La_law_223 : decode code 223 = .ok (.aload_n 0, 1) := by decide +kernel
theorem d_La_law_224 : decode code 224 = .ok (.iload 4, 2) := by decide +kernel
theorem d_La_law_226 : decode code 226 = .ok (.iconst 1, 1) := by decide +kernel
theorem d_La_law_227 : decode code 227 = .ok (.iadd, 1) := by decide +kernel
theorem d_La_law_228 : decode code 228 = .ok (.iaload, 1) := by decide +kernel
theorem d_La_law_229 : decode code 229 = .ok (.i2l, 1) := by decide +kernel
theorem d_La_law_230 : decode code 230 = .ok (.bipush 32, 2) := by decide +kernel
theorem d_La_law_232 : decode code 232 = .ok (.lshl, 1) := by decide +kernel
theorem d_La_law_233 : decode code 233 = .ok (.aload_n 0, 1) := by decide +kernel
theorem d_La_law_234 : decode code 234 = .ok (.iload 4, 2) := by decide +kernel
theorem d_La_law_236 : decode code 236 = .ok (.iconst 2, 1) := by decide +kernel
theorem d_La_law_237 : decode code 237 = .ok (.iadd, 1) := by decide +kernel
theorem d_La_law_238 : decode code 238 = .ok (.iaload, 1) := by decide +kernel
theorem d_La_law_239 : decode code 239 = .ok (.i2l, 1) := by decide +kernel
theorem d_La_law_240 : decode code 240 = .ok (.ldc2_w 55, 3) := by decide +kernel
theorem d_La_law_243 : decode code 243 = .ok (.land, 1) := by decide +kernel
theorem d_La_law_244 : decode code 244 = .ok (.lor, 1) := by decide +kernel
theorem d_La_law_245 : decode code 245 = .ok (.aload_n 0, 1) := by decide +kernel
theorem d_La_law_246 : decode code 246 = .ok (.iload 4, 2) := by decide +kernel
theorem d_La_law_248 : decode code 248 = .ok (.iconst 3, 1) := by decide +kernel
theorem d_La_law_249 : decode code 249 = .ok (.iadd, 1) := by decide +kernel
theorem d_La_law_250 : decode code 250 = .ok (.iaload, 1) := by decide +kernel
theorem d_La_law_251 : decode code 251 = .ok (.ifCond .eq 7, 3) := by decide +kernel
theorem d_La_law_254 : decode code 254 = .ok (.iconst 1, 1) := by decide +kernel
theorem d_La_law_255 : decode code 255 = .ok (.goto 4, 3) := by decide +kernel
theorem d_La_law_258 : decode code 258 = .ok (.iconst 0, 1) := by decide +kernel
theorem d_La_law_259 : decode code 259 = .ok (.aload_n 3, 1) := by decide +kernel
theorem d_La_law_260 : decode code 260 = .ok (.invokestatic 57, 3) := by decide +kernel
theorem d_La_law_263 : decode code 263 = .ok (.istore 5, 2) := by decide +kernel
theorem d_La_law_265 : decode code 265 = .ok (.aload_n 2, 1) := by decide +kernel
theorem d_La_law_266 : decode code 266 = .ok (.aload_n 0, 1) := by decide +kernel
theorem d_La_law_267 : decode code 267 = .ok (.iload 4, 2) := by decide +kernel
theorem d_La_law_269 : decode code 269 = .ok (.iconst 1, 1) := by decide +kernel
theorem d_La_law_270 : decode code 270 = .ok (.iadd, 1) := by decide +kernel
theorem d_La_law_271 : decode code 271 = .ok (.iaload, 1) := by decide +kernel
theorem d_La_law_272 : decode code 272 = .ok (.i2l, 1) := by decide +kernel
theorem d_La_law_273 : decode code 273 = .ok (.bipush 32, 2) := by decide +kernel
theorem d_La_law_275 : decode code 275 = .ok (.lshl, 1) := by decide +kernel
theorem d_La_law_276 : decode code 276 = .ok (.aload_n 0, 1) := by decide +kernel
theorem d_La_law_277 : decode code 277 = .ok (.iload 4, 2) := by decide +kernel
theorem d_La_law_279 : decode code 279 = .ok (.iconst 2, 1) := by decide +kernel
theorem d_La_law_280 : decode code 280 = .ok (.iadd, 1) := by decide +kernel
theorem d_La_law_281 : decode code 281 = .ok (.iaload, 1) := by decide +kernel
theorem d_La_law_282 : decode code 282 = .ok (.i2l, 1) := by decide +kernel
theorem d_La_law_283 : decode code 283 = .ok (.ldc2_w 55, 3) := by decide +kernel
theorem d_La_law_286 : decode code 286 = .ok (.land, 1) := by decide +kernel
theorem d_La_law_287 : decode code 287 = .ok (.lor, 1) := by decide +kernel
theorem d_La_law_288 : decode code 288 = .ok (.aload_n 0, 1) := by decide +kernel
theorem d_La_law_289 : decode code 289 = .ok (.iload 4, 2) := by decide +kernel
theorem d_La_law_291 : decode code 291 = .ok (.iconst 3, 1) := by decide +kernel
theorem d_La_law_292 : decode code 292 = .ok (.iadd, 1) := by decide +kernel
theorem d_La_law_293 : decode code 293 = .ok (.iaload, 1) := by decide +kernel
theorem d_La_law_294 : decode code 294 = .ok (.ifCond .eq 7, 3) := by decide +kernel
theorem d_La_law_297 : decode code 297 = .ok (.iconst 1, 1) := by decide +kernel
theorem d_La_law_298 : decode code 298 = .ok (.goto 4, 3) := by decide +kernel
theorem d_La_law_301 : decode code 301 = .ok (.iconst 0, 1) := by decide +kernel
theorem d_La_law_302 : decode code 302 = .ok (.invokevirtual 62, 3) := by decide +kernel
theorem d_La_law_305 : decode code 305 = .ok (.istore 6, 2) := by decide +kernel
theorem d_La_law_307 : decode code 307 = .ok (.aload_n 2, 1) := by decide +kernel
theorem d_La_law_308 : decode code 308 = .ok (.invokevirtual 63, 3) := by decide +kernel
theorem d_La_law_311 : decode code 311 = .ok (.iload 5, 2) := by decide +kernel
theorem d_La_law_313 : decode code 313 = .ok (.if_icmp .eq 5, 3) := by decide +kernel
theorem d_La_law_316 : decode code 316 = .ok (.iconst 0, 1) := by decide +kernel
theorem d_La_law_317 : decode code 317 = .ok (.ireturn, 1) := by decide +kernel
theorem d_La_law_318 : decode code 318 = .ok (.iload 5, 2) := by decide +kernel
theorem d_La_law_320 : decode code 320 = .ok (.ifCond .ne 15, 3) := by decide +kernel
theorem d_La_law_323 : decode code 323 = .ok (.aload_n 3, 1) := by decide +kernel
theorem d_La_law_324 : decode code 324 = .ok (.iconst 0, 1) := by decide +kernel
theorem d_La_law_325 : decode code 325 = .ok (.laload, 1) := by decide +kernel
theorem d_La_law_326 : decode code 326 = .ok (.iload 6, 2) := by decide +kernel
theorem d_La_law_328 : decode code 328 = .ok (.i2l, 1) := by decide +kernel
theorem d_La_law_329 : decode code 329 = .ok (.lcmp, 1) := by decide +kernel
theorem d_La_law_330 : decode code 330 = .ok (.ifCond .eq 5, 3) := by decide +kernel
theorem d_La_law_333 : decode code 333 = .ok (.iconst 0, 1) := by decide +kernel
theorem d_La_law_334 : decode code 334 = .ok (.ireturn, 1) := by decide +kernel
theorem d_La_law_335 : decode code 335 = .ok (.goto 505, 3) := by decide +kernel
theorem d_La_law_338 : decode code 338 = .ok (.aload_n 1, 1) := by decide +kernel
theorem d_La_law_339 : decode code 339 = .ok (.aload_n 0, 1) := by decide +kernel
theorem d_La_law_340 : decode code 340 = .ok (.iload 4, 2) := by decide +kernel
theorem d_La_law_342 : decode code 342 = .ok (.iconst 1, 1) := by decide +kernel
theorem d_La_law_343 : decode code 343 = .ok (.iadd, 1) := by decide +kernel
theorem d_La_law_344 : decode code 344 = .ok (.iaload, 1) := by decide +kernel
theorem d_La_law_345 : decode code 345 = .ok (.ifCond .eq 7, 3) := by decide +kernel
theorem d_La_law_348 : decode code 348 = .ok (.iconst 1, 1) := by decide +kernel
theorem d_La_law_349 : decode code 349 = .ok (.goto 4, 3) := by decide +kernel
theorem d_La_law_352 : decode code 352 = .ok (.iconst 0, 1) := by decide +kernel
theorem d_La_law_353 : decode code 353 = .ok (.aload_n 3, 1) := by decide +kernel
theorem d_La_law_354 : decode code 354 = .ok (.invokestatic 66, 3) := by decide +kernel
theorem d_La_law_357 : decode code 357 = .ok (.istore 5, 2) := by decide +kernel
theorem d_La_law_359 : decode code 359 = .ok (.aload_n 2, 1) := by decide +kernel
theorem d_La_law_360 : decode code 360 = .ok (.aload_n 0, 1) := by decide +kernel
theorem d_La_law_361 : decode code 361 = .ok (.iload 4, 2) := by decide +kernel
theorem d_La_law_363 : decode code 363 = .ok (.iconst 1, 1) := by decide +kernel
theorem d_La_law_364 : decode code 364 = .ok (.iadd, 1) := by decide +kernel
theorem d_La_law_365 : decode code 365 = .ok (.iaload, 1) := by decide +kernel
theorem d_La_law_366 : decode code 366 = .ok (.ifCond .eq 7, 3) := by decide +kernel
theorem d_La_law_369 : decode code 369 = .ok (.iconst 1, 1) := by decide +kernel
theorem d_La_law_370 : decode code 370 = .ok (.goto 4, 3) := by decide +kernel
theorem d_La_law_373 : decode code 373 = .ok (.iconst 0, 1) := by decide +kernel
theorem d_La_law_374 : decode code 374 = .ok (.invokevirtual 69, 3) := by decide +kernel
theorem d_La_law_377 : decode code 377 = .ok (.istore 6, 2) := by decide +kernel
theorem d_La_law_379 : decode code 379 = .ok (.aload_n 2, 1) := by decide +kernel
theorem d_La_law_380 : decode code 380 = .ok (.invokevirtual 63, 3) := by decide +kernel
theorem d_La_law_383 : decode code 383 = .ok (.iload 5, 2) := by decide +kernel
theorem d_La_law_385 : decode code 385 = .ok (.if_icmp .eq 5, 3) := by decide +kernel
theorem d_La_law_388 : decode code 388 = .ok (.iconst 0, 1) := by decide +kernel
theorem d_La_law_389 : decode code 389 = .ok (.ireturn, 1) := by decide +kernel
theorem d_La_law_390 : decode code 390 = .ok (.iload 5, 2) := by decide +kernel
theorem d_La_law_392 : decode code 392 = .ok (.ifCond .ne 15, 3) := by decide +kernel
theorem d_La_law_395 : decode code 395 = .ok (.aload_n 3, 1) := by decide +kernel
theorem d_La_law_396 : decode code 396 = .ok (.iconst 0, 1) := by decide +kernel
theorem d_La_law_397 : decode code 397 = .ok (.laload, 1) := by decide +kernel
theorem d_La_law_398 : decode code 398 = .ok (.iload 6, 2) := by decide +kernel
theorem d_La_law_400 : decode code 400 = .ok (.i2l, 1) := by decide +kernel
theorem d_La_law_401 : decode code 401 = .ok (.lcmp, 1) := by decide +kernel
theorem d_La_law_402 : decode code 402 = .ok (.ifCond .eq 5, 3) := by decide +kernel
theorem d_La_law_405 : decode code 405 = .ok (.iconst 0, 1) := by decide +kernel
theorem d_La_law_406 : decode code 406 = .ok (.ireturn, 1) := by decide +kernel
theorem d_La_law_407 : decode code 407 = .ok (.goto 433, 3) := by decide +kernel
theorem d_La_law_410 : decode code 410 = .ok (.aload_n 1, 1) := by decide +kernel
theorem d_La_law_411 : decode code 411 = .ok (.aload_n 3, 1) := by decide +kernel
theorem d_La_law_412 : decode code 412 = .ok (.invokestatic 70, 3) := by decide +kernel
theorem d_La_law_415 : decode code 415 = .ok (.istore 5, 2) := by decide +kernel
theorem d_La_law_417 : decode code 417 = .ok (.aload_n 2, 1) := by decide +kernel
theorem d_La_law_418 : decode code 418 = .ok (.invokevirtual 73, 3) := by decide +kernel
theorem d_La_law_421 : decode code 421 = .ok (.istore 6, 2) := by decide +kernel
theorem d_La_law_423 : decode code 423 = .ok (.aload_n 2, 1) := by decide +kernel
theorem d_La_law_424 : decode code 424 = .ok (.invokevirtual 63, 3) := by decide +kernel
theorem d_La_law_427 : decode code 427 = .ok (.iload 5, 2) := by decide +kernel
theorem d_La_law_429 : decode code 429 = .ok (.if_icmp .eq 5, 3) := by decide +kernel
theorem d_La_law_432 : decode code 432 = .ok (.iconst 0, 1) := by decide +kernel
theorem d_La_law_433 : decode code 433 = .ok (.ireturn, 1) := by decide +kernel
theorem d_La_law_434 : decode code 434 = .ok (.iload 5, 2) := by decide +kernel
theorem d_La_law_436 : decode code 436 = .ok (.ifCond .ne 15, 3) := by decide +kernel
theorem d_La_law_439 : decode code 439 = .ok (.aload_n 3, 1) := by decide +kernel
theorem d_La_law_440 : decode code 440 = .ok (.iconst 0, 1) := by decide +kernel
theorem d_La_law_441 : decode code 441 = .ok (.laload, 1) := by decide +kernel
theorem d_La_law_442 : decode code 442 = .ok (.iload 6, 2) := by decide +kernel
theorem d_La_law_444 : decode code 444 = .ok (.i2l, 1) := by decide +kernel
theorem d_La_law_445 : decode code 445 = .ok (.lcmp, 1) := by decide +kernel
theorem d_La_law_446 : decode code 446 = .ok (.ifCond .eq 5, 3) := by decide +kernel
theorem d_La_law_449 : decode code 449 = .ok (.iconst 0, 1) := by decide +kernel
theorem d_La_law_450 : decode code 450 = .ok (.ireturn, 1) := by decide +kernel
theorem d_La_law_451 : decode code 451 = .ok (.goto 389, 3) := by decide +kernel
theorem d_La_law_454 : decode code 454 = .ok (.aload_n 1, 1) := by decide +kernel
theorem d_La_law_455 : decode code 455 = .ok (.aload_n 0, 1) := by decide +kernel
theorem d_La_law_456 : decode code 456 = .ok (.iload 4, 2) := by decide +kernel
theorem d_La_law_458 : decode code 458 = .ok (.iconst 1, 1) := by decide +kernel
theorem d_La_law_459 : decode code 459 = .ok (.iadd, 1) := by decide +kernel
theorem d_La_law_460 : decode code 460 = .ok (.iaload, 1) := by decide +kernel
theorem d_La_law_461 : decode code 461 = .ok (.aload_n 3, 1) := by decide +kernel
theorem d_La_law_462 : decode code 462 = .ok (.invokestatic 74, 3) := by decide +kernel
theorem d_La_law_465 : decode code 465 = .ok (.istore 5, 2) := by decide +kernel
theorem d_La_law_467 : decode code 467 = .ok (.aload_n 2, 1) := by decide +kernel
theorem d_La_law_468 : decode code 468 = .ok (.aload_n 0, 1) := by decide +kernel
theorem d_La_law_469 : decode code 469 = .ok (.iload 4, 2) := by decide +kernel
theorem d_La_law_471 : decode code 471 = .ok (.iconst 1, 1) := by decide +kernel
theorem d_La_law_472 : decode code 472 = .ok (.iadd, 1) := by decide +kernel
theorem d_La_law_473 : decode code 473 = .ok (.iaload, 1) := by decide +kernel
theorem d_La_law_474 : decode code 474 = .ok (.invokevirtual 77, 3) := by decide +kernel
theorem d_La_law_477 : decode code 477 = .ok (.istore 6, 2) := by decide +kernel
theorem d_La_law_479 : decode code 479 = .ok (.aload_n 2, 1) := by decide +kernel
theorem d_La_law_480 : decode code 480 = .ok (.invokevirtual 63, 3) := by decide +kernel
theorem d_La_law_483 : decode code 483 = .ok (.iload 5, 2) := by decide +kernel
theorem d_La_law_485 : decode code 485 = .ok (.if_icmp .eq 5, 3) := by decide +kernel
theorem d_La_law_488 : decode code 488 = .ok (.iconst 0, 1) := by decide +kernel
theorem d_La_law_489 : decode code 489 = .ok (.ireturn, 1) := by decide +kernel
theorem d_La_law_490 : decode code 490 = .ok (.iload 5, 2) := by decide +kernel
theorem d_La_law_492 : decode code 492 = .ok (.ifCond .ne 15, 3) := by decide +kernel
theorem d_La_law_495 : decode code 495 = .ok (.aload_n 3, 1) := by decide +kernel
theorem d_La_law_496 : decode code 496 = .ok (.iconst 0, 1) := by decide +kernel
theorem d_La_law_497 : decode code 497 = .ok (.laload, 1) := by decide +kernel
theorem d_La_law_498 : decode code 498 = .ok (.iload 6, 2) := by decide +kernel
theorem d_La_law_500 : decode code 500 = .ok (.i2l, 1) := by decide +kernel
theorem d_La_law_501 : decode code 501 = .ok (.lcmp, 1) := by decide +kernel
theorem d_La_law_502 : decode code 502 = .ok (.ifCond .eq 5, 3) := by decide +kernel
theorem d_La_law_505 : decode code 505 = .ok (.iconst 0, 1) := by decide +kernel
theorem d_La_law_506 : decode code 506 = .ok (.ireturn, 1) := by decide +kernel
theorem d_La_law_507 : decode code 507 = .ok (.goto 333, 3) := by decide +kernel
theorem d_La_law_510 : decode code 510 = .ok (.aload_n 1, 1) := by decide +kernel
theorem d_La_law_511 : decode code 511 = .ok (.invokevirtual 78, 3) := by decide +kernel
theorem d_La_law_514 : decode code 514 = .ok (.aload_n 2, 1) := by decide +kernel
theorem d_La_law_515 : decode code 515 = .ok (.invokevirtual 81, 3) := by decide +kernel
theorem d_La_law_518 : decode code 518 = .ok (.goto 322, 3) := by decide +kernel
theorem d_La_law_521 : decode code 521 = .ok (.aload_n 1, 1) := by decide +kernel
theorem d_La_law_522 : decode code 522 = .ok (.invokevirtual 82, 3) := by decide +kernel
theorem d_La_law_525 : decode code 525 = .ok (.aload_n 2, 1) := by decide +kernel
theorem d_La_law_526 : decode code 526 = .ok (.invokevirtual 85, 3) := by decide +kernel
theorem d_La_law_529 : decode code 529 = .ok (.if_icmp .eq 311, 3) := by decide +kernel
theorem d_La_law_532 : decode code 532 = .ok (.iconst 0, 1) := by decide +kernel
theorem d_La_law_533 : decode code 533 = .ok (.ireturn, 1) := by decide +kernel
theorem d_La_law_534 : decode code 534 = .ok (.aload_n 1, 1) := by decide +kernel
theorem d_La_law_535 : decode code 535 = .ok (.aload_n 0, 1) := by decide +kernel
theorem d_La_law_536 : decode code 536 = .ok (.iload 4, 2) := by decide +kernel
theorem d_La_law_538 : decode code 538 = .ok (.iconst 1, 1) := by decide +kernel
theorem d_La_law_539 : decode code 539 = .ok (.iadd, 1) := by decide +kernel
theorem d_La_law_540 : decode code 540 = .ok (.iaload, 1) := by decide +kernel
theorem d_La_law_541 : decode code 541 = .ok (.ifCond .eq 7, 3) := by decide +kernel
theorem d_La_law_544 : decode code 544 = .ok (.iconst 1, 1) := by decide +kernel
theorem d_La_law_545 : decode code 545 = .ok (.goto 4, 3) := by decide +kernel
theorem d_La_law_548 : decode code 548 = .ok (.iconst 0, 1) := by decide +kernel
theorem d_La_law_549 : decode code 549 = .ok (.invokevirtual 86, 3) := by decide +kernel
theorem d_La_law_552 : decode code 552 = .ok (.aload_n 2, 1) := by decide +kernel
theorem d_La_law_553 : decode code 553 = .ok (.aload_n 0, 1) := by decide +kernel
theorem d_La_law_554 : decode code 554 = .ok (.iload 4, 2) := by decide +kernel
theorem d_La_law_556 : decode code 556 = .ok (.iconst 1, 1) := by decide +kernel
theorem d_La_law_557 : decode code 557 = .ok (.iadd, 1) := by decide +kernel
theorem d_La_law_558 : decode code 558 = .ok (.iaload, 1) := by decide +kernel
theorem d_La_law_559 : decode code 559 = .ok (.ifCond .eq 7, 3) := by decide +kernel
theorem d_La_law_562 : decode code 562 = .ok (.iconst 1, 1) := by decide +kernel
theorem d_La_law_563 : decode code 563 = .ok (.goto 4, 3) := by decide +kernel
theorem d_La_law_566 : decode code 566 = .ok (.iconst 0, 1) := by decide +kernel
theorem d_La_law_567 : decode code 567 = .ok (.invokevirtual 89, 3) := by decide +kernel
theorem d_La_law_570 : decode code 570 = .ok (.if_icmp .eq 270, 3) := by decide +kernel
theorem d_La_law_573 : decode code 573 = .ok (.iconst 0, 1) := by decide +kernel
theorem d_La_law_574 : decode code 574 = .ok (.ireturn, 1) := by decide +kernel
theorem d_La_law_575 : decode code 575 = .ok (.aload_n 1, 1) := by decide +kernel
theorem d_La_law_576 : decode code 576 = .ok (.invokevirtual 90, 3) := by decide +kernel
theorem d_La_law_579 : decode code 579 = .ok (.aload_n 2, 1) := by decide +kernel
theorem d_La_law_580 : decode code 580 = .ok (.invokevirtual 93, 3) := by decide +kernel
theorem d_La_law_583 : decode code 583 = .ok (.if_icmp .eq 257, 3) := by decide +kernel
theorem d_La_law_586 : decode code 586 = .ok (.iconst 0, 1) := by decide +kernel
theorem d_La_law_587 : decode code 587 = .ok (.ireturn, 1) := by decide +kernel
theorem d_La_law_588 : decode code 588 = .ok (.aload_n 1, 1) := by decide +kernel
theorem d_La_law_589 : decode code 589 = .ok (.aload_n 0, 1) := by decide +kernel
theorem d_La_law_590 : decode code 590 = .ok (.iload 4, 2) := by decide +kernel
theorem d_La_law_592 : decode code 592 = .ok (.iconst 1, 1) := by decide +kernel
theorem d_La_law_593 : decode code 593 = .ok (.iadd, 1) := by decide +kernel
theorem d_La_law_594 : decode code 594 = .ok (.iaload, 1) := by decide +kernel
theorem d_La_law_595 : decode code 595 = .ok (.aload_n 3, 1) := by decide +kernel
theorem d_La_law_596 : decode code 596 = .ok (.invokestatic 94, 3) := by decide +kernel
theorem d_La_law_599 : decode code 599 = .ok (.istore 5, 2) := by decide +kernel
theorem d_La_law_601 : decode code 601 = .ok (.aload_n 2, 1) := by decide +kernel
theorem d_La_law_602 : decode code 602 = .ok (.aload_n 0, 1) := by decide +kernel
theorem d_La_law_603 : decode code 603 = .ok (.iload 4, 2) := by decide +kernel
theorem d_La_law_605 : decode code 605 = .ok (.iconst 1, 1) := by decide +kernel
theorem d_La_law_606 : decode code 606 = .ok (.iadd, 1) := by decide +kernel
theorem d_La_law_607 : decode code 607 = .ok (.iaload, 1) := by decide +kernel
theorem d_La_law_608 : decode code 608 = .ok (.invokevirtual 96, 3) := by decide +kernel
theorem d_La_law_611 : decode code 611 = .ok (.istore 6, 2) := by decide +kernel
theorem d_La_law_613 : decode code 613 = .ok (.aload_n 2, 1) := by decide +kernel
theorem d_La_law_614 : decode code 614 = .ok (.invokevirtual 63, 3) := by decide +kernel
theorem d_La_law_617 : decode code 617 = .ok (.iload 5, 2) := by decide +kernel
theorem d_La_law_619 : decode code 619 = .ok (.if_icmp .eq 5, 3) := by decide +kernel
theorem d_La_law_622 : decode code 622 = .ok (.iconst 0, 1) := by decide +kernel
theorem d_La_law_623 : decode code 623 = .ok (.ireturn, 1) := by decide +kernel
theorem d_La_law_624 : decode code 624 = .ok (.iload 5, 2) := by decide +kernel
theorem d_La_law_626 : decode code 626 = .ok (.ifCond .ne 22, 3) := by decide +kernel
theorem d_La_law_629 : decode code 629 = .ok (.aload_n 3, 1) := by decide +kernel
theorem d_La_law_630 : decode code 630 = .ok (.iconst 0, 1) := by decide +kernel
theorem d_La_law_631 : decode code 631 = .ok (.laload, 1) := by decide +kernel
theorem d_La_law_632 : decode code 632 = .ok (.iload 6, 2) := by decide +kernel
theorem d_La_law_634 : decode code 634 = .ok (.ifCond .eq 7, 3) := by decide +kernel
theorem d_La_law_637 : decode code 637 = .ok (.lconst 1, 1) := by decide +kernel
theorem d_La_law_638 : decode code 638 = .ok (.goto 4, 3) := by decide +kernel
theorem d_La_law_641 : decode code 641 = .ok (.lconst 0, 1) := by decide +kernel
theorem d_La_law_642 : decode code 642 = .ok (.lcmp, 1) := by decide +kernel
theorem d_La_law_643 : decode code 643 = .ok (.ifCond .eq 5, 3) := by decide +kernel
theorem d_La_law_646 : decode code 646 = .ok (.iconst 0, 1) := by decide +kernel
theorem d_La_law_647 : decode code 647 = .ok (.ireturn, 1) := by decide +kernel
theorem d_La_law_648 : decode code 648 = .ok (.goto 192, 3) := by decide +kernel
theorem d_La_law_651 : decode code 651 = .ok (.aload_n 1, 1) := by decide +kernel
theorem d_La_law_652 : decode code 652 = .ok (.invokevirtual 97, 3) := by decide +kernel
theorem d_La_law_655 : decode code 655 = .ok (.aload_n 2, 1) := by decide +kernel
theorem d_La_law_656 : decode code 656 = .ok (.invokevirtual 101, 3) := by decide +kernel
theorem d_La_law_659 : decode code 659 = .ok (.lcmp, 1) := by decide +kernel
theorem d_La_law_660 : decode code 660 = .ok (.ifCond .eq 180, 3) := by decide +kernel
theorem d_La_law_663 : decode code 663 = .ok (.iconst 0, 1) := by decide +kernel
theorem d_La_law_664 : decode code 664 = .ok (.ireturn, 1) := by decide +kernel
theorem d_La_law_665 : decode code 665 = .ok (.aload_n 1, 1) := by decide +kernel
theorem d_La_law_666 : decode code 666 = .ok (.aload_n 0, 1) := by decide +kernel
theorem d_La_law_667 : decode code 667 = .ok (.iload 4, 2) := by decide +kernel
theorem d_La_law_669 : decode code 669 = .ok (.iconst 1, 1) := by decide +kernel
theorem d_La_law_670 : decode code 670 = .ok (.iadd, 1) := by decide +kernel
theorem d_La_law_671 : decode code 671 = .ok (.iaload, 1) := by decide +kernel
theorem d_La_law_672 : decode code 672 = .ok (.invokevirtual 102, 3) := by decide +kernel
theorem d_La_law_675 : decode code 675 = .ok (.aload_n 2, 1) := by decide +kernel
theorem d_La_law_676 : decode code 676 = .ok (.aload_n 0, 1) := by decide +kernel
theorem d_La_law_677 : decode code 677 = .ok (.iload 4, 2) := by decide +kernel
theorem d_La_law_679 : decode code 679 = .ok (.iconst 1, 1) := by decide +kernel
theorem d_La_law_680 : decode code 680 = .ok (.iadd, 1) := by decide +kernel
theorem d_La_law_681 : decode code 681 = .ok (.iaload, 1) := by decide +kernel
theorem d_La_law_682 : decode code 682 = .ok (.invokevirtual 105, 3) := by decide +kernel
theorem d_La_law_685 : decode code 685 = .ok (.if_icmp .eq 155, 3) := by decide +kernel
theorem d_La_law_688 : decode code 688 = .ok (.iconst 0, 1) := by decide +kernel
theorem d_La_law_689 : decode code 689 = .ok (.ireturn, 1) := by decide +kernel
theorem d_La_law_690 : decode code 690 = .ok (.aload_n 1, 1) := by decide +kernel
theorem d_La_law_691 : decode code 691 = .ok (.invokevirtual 106, 3) := by decide +kernel
theorem d_La_law_694 : decode code 694 = .ok (.aload_n 2, 1) := by decide +kernel
theorem d_La_law_695 : decode code 695 = .ok (.invokevirtual 109, 3) := by decide +kernel
theorem d_La_law_698 : decode code 698 = .ok (.if_icmp .eq 142, 3) := by decide +kernel
theorem d_La_law_701 : decode code 701 = .ok (.iconst 0, 1) := by decide +kernel
theorem d_La_law_702 : decode code 702 = .ok (.ireturn, 1) := by decide +kernel
theorem d_La_law_703 : decode code 703 = .ok (.aload_n 1, 1) := by decide +kernel
theorem d_La_law_704 : decode code 704 = .ok (.aload_n 0, 1) := by decide +kernel
theorem d_La_law_705 : decode code 705 = .ok (.iload 4, 2) := by decide +kernel
theorem d_La_law_707 : decode code 707 = .ok (.iconst 1, 1) := by decide +kernel
theorem d_La_law_708 : decode code 708 = .ok (.iadd, 1) := by decide +kernel
theorem d_La_law_709 : decode code 709 = .ok (.iaload, 1) := by decide +kernel
theorem d_La_law_710 : decode code 710 = .ok (.aload_n 0, 1) := by decide +kernel
theorem d_La_law_711 : decode code 711 = .ok (.iload 4, 2) := by decide +kernel
theorem d_La_law_713 : decode code 713 = .ok (.iconst 2, 1) := by decide +kernel
theorem d_La_law_714 : decode code 714 = .ok (.iadd, 1) := by decide +kernel
theorem d_La_law_715 : decode code 715 = .ok (.iaload, 1) := by decide +kernel
theorem d_La_law_716 : decode code 716 = .ok (.aload_n 3, 1) := by decide +kernel
theorem d_La_law_717 : decode code 717 = .ok (.invokestatic 110, 3) := by decide +kernel
theorem d_La_law_720 : decode code 720 = .ok (.istore 5, 2) := by decide +kernel
theorem d_La_law_722 : decode code 722 = .ok (.aload_n 2, 1) := by decide +kernel
theorem d_La_law_723 : decode code 723 = .ok (.aload_n 0, 1) := by decide +kernel
theorem d_La_law_724 : decode code 724 = .ok (.iload 4, 2) := by decide +kernel
theorem d_La_law_726 : decode code 726 = .ok (.iconst 1, 1) := by decide +kernel
theorem d_La_law_727 : decode code 727 = .ok (.iadd, 1) := by decide +kernel
theorem d_La_law_728 : decode code 728 = .ok (.iaload, 1) := by decide +kernel
theorem d_La_law_729 : decode code 729 = .ok (.aload_n 0, 1) := by decide +kernel
theorem d_La_law_730 : decode code 730 = .ok (.iload 4, 2) := by decide +kernel
theorem d_La_law_732 : decode code 732 = .ok (.iconst 2, 1) := by decide +kernel
theorem d_La_law_733 : decode code 733 = .ok (.iadd, 1) := by decide +kernel
theorem d_La_law_734 : decode code 734 = .ok (.iaload, 1) := by decide +kernel
theorem d_La_law_735 : decode code 735 = .ok (.invokevirtual 113, 3) := by decide +kernel
theorem d_La_law_738 : decode code 738 = .ok (.istore 6, 2) := by decide +kernel
theorem d_La_law_740 : decode code 740 = .ok (.aload_n 2, 1) := by decide +kernel
theorem d_La_law_741 : decode code 741 = .ok (.invokevirtual 63, 3) := by decide +kernel
theorem d_La_law_744 : decode code 744 = .ok (.iload 5, 2) := by decide +kernel
theorem d_La_law_746 : decode code 746 = .ok (.if_icmp .eq 5, 3) := by decide +kernel
theorem d_La_law_749 : decode code 749 = .ok (.iconst 0, 1) := by decide +kernel
theorem d_La_law_750 : decode code 750 = .ok (.ireturn, 1) := by decide +kernel
theorem d_La_law_751 : decode code 751 = .ok (.iload 5, 2) := by decide +kernel
theorem d_La_law_753 : decode code 753 = .ok (.ifCond .ne 15, 3) := by decide +kernel
theorem d_La_law_756 : decode code 756 = .ok (.aload_n 3, 1) := by decide +kernel
theorem d_La_law_757 : decode code 757 = .ok (.iconst 0, 1) := by decide +kernel
theorem d_La_law_758 : decode code 758 = .ok (.laload, 1) := by decide +kernel
theorem d_La_law_759 : decode code 759 = .ok (.iload 6, 2) := by decide +kernel
theorem d_La_law_761 : decode code 761 = .ok (.i2l, 1) := by decide +kernel
theorem d_La_law_762 : decode code 762 = .ok (.lcmp, 1) := by decide +kernel
theorem d_La_law_763 : decode code 763 = .ok (.ifCond .eq 5, 3) := by decide +kernel
theorem d_La_law_766 : decode code 766 = .ok (.iconst 0, 1) := by decide +kernel
theorem d_La_law_767 : decode code 767 = .ok (.ireturn, 1) := by decide +kernel
theorem d_La_law_768 : decode code 768 = .ok (.goto 72, 3) := by decide +kernel
theorem d_La_law_771 : decode code 771 = .ok (.aload_n 1, 1) := by decide +kernel
theorem d_La_law_772 : decode code 772 = .ok (.invokevirtual 114, 3) := by decide +kernel
theorem d_La_law_775 : decode code 775 = .ok (.aload_n 2, 1) := by decide +kernel
theorem d_La_law_776 : decode code 776 = .ok (.invokevirtual 117, 3) := by decide +kernel
theorem d_La_law_779 : decode code 779 = .ok (.if_icmp .eq 61, 3) := by decide +kernel
theorem d_La_law_782 : decode code 782 = .ok (.iconst 0, 1) := by decide +kernel
theorem d_La_law_783 : decode code 783 = .ok (.ireturn, 1) := by decide +kernel
theorem d_La_law_784 : decode code 784 = .ok (.aload_n 1, 1) := by decide +kernel
theorem d_La_law_785 : decode code 785 = .ok (.aload_n 0, 1) := by decide +kernel
theorem d_La_law_786 : decode code 786 = .ok (.iload 4, 2) := by decide +kernel
theorem d_La_law_788 : decode code 788 = .ok (.iconst 1, 1) := by decide +kernel
theorem d_La_law_789 : decode code 789 = .ok (.iadd, 1) := by decide +kernel
theorem d_La_law_790 : decode code 790 = .ok (.iaload, 1) := by decide +kernel
theorem d_La_law_791 : decode code 791 = .ok (.aload_n 3, 1) := by decide +kernel
theorem d_La_law_792 : decode code 792 = .ok (.invokestatic 118, 3) := by decide +kernel
theorem d_La_law_795 : decode code 795 = .ok (.istore 5, 2) := by decide +kernel
theorem d_La_law_797 : decode code 797 = .ok (.aload_n 2, 1) := by decide +kernel
theorem d_La_law_798 : decode code 798 = .ok (.aload_n 0, 1) := by decide +kernel
theorem d_La_law_799 : decode code 799 = .ok (.iload 4, 2) := by decide +kernel
theorem d_La_law_801 : decode code 801 = .ok (.iconst 1, 1) := by decide +kernel
theorem d_La_law_802 : decode code 802 = .ok (.iadd, 1) := by decide +kernel
theorem d_La_law_803 : decode code 803 = .ok (.iaload, 1) := by decide +kernel
theorem d_La_law_804 : decode code 804 = .ok (.invokevirtual 120, 3) := by decide +kernel
theorem d_La_law_807 : decode code 807 = .ok (.istore 6, 2) := by decide +kernel
theorem d_La_law_809 : decode code 809 = .ok (.aload_n 2, 1) := by decide +kernel
theorem d_La_law_810 : decode code 810 = .ok (.invokevirtual 63, 3) := by decide +kernel
theorem d_La_law_813 : decode code 813 = .ok (.iload 5, 2) := by decide +kernel
theorem d_La_law_815 : decode code 815 = .ok (.if_icmp .eq 5, 3) := by decide +kernel
theorem d_La_law_818 : decode code 818 = .ok (.iconst 0, 1) := by decide +kernel
theorem d_La_law_819 : decode code 819 = .ok (.ireturn, 1) := by decide +kernel
theorem d_La_law_820 : decode code 820 = .ok (.iload 5, 2) := by decide +kernel
theorem d_La_law_822 : decode code 822 = .ok (.ifCond .ne 15, 3) := by decide +kernel
theorem d_La_law_825 : decode code 825 = .ok (.aload_n 3, 1) := by decide +kernel
theorem d_La_law_826 : decode code 826 = .ok (.iconst 0, 1) := by decide +kernel
theorem d_La_law_827 : decode code 827 = .ok (.laload, 1) := by decide +kernel
theorem d_La_law_828 : decode code 828 = .ok (.iload 6, 2) := by decide +kernel
theorem d_La_law_830 : decode code 830 = .ok (.i2l, 1) := by decide +kernel
theorem d_La_law_831 : decode code 831 = .ok (.lcmp, 1) := by decide +kernel
theorem d_La_law_832 : decode code 832 = .ok (.ifCond .eq 5, 3) := by decide +kernel
theorem d_La_law_835 : decode code 835 = .ok (.iconst 0, 1) := by decide +kernel
theorem d_La_law_836 : decode code 836 = .ok (.ireturn, 1) := by decide +kernel
theorem d_La_law_837 : decode code 837 = .ok (.goto 3, 3) := by decide +kernel
theorem d_La_law_840 : decode code 840 = .ok (.iinc 4 6, 3) := by decide +kernel
theorem d_La_law_843 : decode code 843 = .ok (.goto (-820), 3) := by decide +kernel
theorem d_La_law_846 : decode code 846 = .ok (.iconst 1, 1) := by decide +kernel
theorem d_La_law_847 : decode code 847 = .ok (.ireturn, 1) := by decide +kernel
