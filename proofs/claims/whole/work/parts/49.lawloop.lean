/-! LAW: the loop -/
theorem zz_loopC {p : Program} {l : Launch} {e : Env} {R : Room} {s : State} {m : MethodId} {args : Array Value} {below : List Frame} {meth : Method} {c : Code} {Q : State → Prop} {pc : Nat} {st : List Value} {σ : Type} (I : σ → Heap → List Loc → Array Slot → Prop) (μ cf sf : σ → Nat)
    (hs : ∀ (x : σ) (H : Heap) (locs : List Loc) (ls : Array Slot), I x H locs ls → (∀ (y : σ) (H1 : Heap) (locs1 : List Loc) (ls1 : Array Slot), I y H1 locs1 ls1 → μ y < μ x → W p l e R s m args below meth c H1 locs1 (cf y) (sf y) Q (F0 m pc ls1 st)) → W p l e R s m args below meth c H locs (cf x) (sf x) Q (F0 m pc ls st))
    (x : σ) {H : Heap} {locs : List Loc} {ls : Array Slot} (h : I x H locs ls) : W p l e R s m args below meth c H locs (cf x) (sf x) Q (F0 m pc ls st) := by
  have key : ∀ (n : Nat) (x : σ) (H : Heap) (locs : List Loc) (ls : Array Slot), μ x < n → I x H locs ls → W p l e R s m args below meth c H locs (cf x) (sf x) Q (F0 m pc ls st) := by
    intro n
    induction n with
    | zero => intro x H locs ls h; exact absurd h (Nat.not_lt_zero _)
    | succ n ih => intro x H locs ls h hI; exact hs x H locs ls hI (fun y H1 locs1 ls1 hJ hm => ih y H1 locs1 ls1 (by omega) hJ)
  exact key (μ x + 1) x H locs ls (Nat.lt_succ_self _) h
theorem lw_6 {t : Nat} : nI (6 * t) + 6 = nI (6 * (t + 1)) := by rw [show nI (6 * t) + 6 = nI (6 * t + 6) from nI_add _ 6, Nat.mul_succ]
theorem lw_out {k : Nat} (h : 17 ≤ k ∧ k < 32) : (nI k).toInt < 0 ∨ 16 < (nI k).toInt := by rw [nI_toInt (by omega)]; omega
set_option maxHeartbeats 40000000 in
set_option maxRecDepth 100000 in
theorem law_loop {p : Program} {e : Env} {s : State} {m : MethodId} {below : List Frame} {meth : Method} {c : Code} {l : Launch} {dC : Nat → ClassId} {dI : Nat → Nat → Nat} {ad : Nat → Nat} {b L : Nat} {xs : Nat → Int32} {A : Nat → Prop} {q : Lf} {z : Ls} {H : Heap} {locs : List Loc} {ls : Array Slot} (C0 : lw_G p s m meth c l dC dI ad b L xs A q) (hL : L ≤ 3072) (I0 : lw_I dC dI A s b q z 0 H locs ls) : W p l e room_1 s m #[Value.ref b] below meth c H locs 30 120000 (lw_Z below #[Value.ref b] s) (F0 m 23 ls []) := by
  refine zz_loopC (fun (x : Ls × Nat) H locs ls => lw_I dC dI A s b q x.1 x.2 H locs ls ∧ 6 * x.2 ≤ L + 5) (fun x => 3072 - x.2) (fun x => 30 + 3 * x.2) (fun x => 120000 + 8300 * x.2) ?_ (z, 0) ⟨I0, by omega⟩
  intro x H locs ls hI ih
  obtain ⟨z, t⟩ := x
  obtain ⟨I1, h5⟩ := hI
  have h5 : 6 * t ≤ L + 5 := h5
  have I2 : lw_I dC dI A s b q z t H locs ls := I1
  have C1 := C0
  obtain ⟨hx, hb, hr, hml, hown, hg, hscr, hbl, hbA, hA, hAe, hlocks, hX, hnt, hK⟩ := C1
  obtain ⟨hP, hD, hS, hl, hRel⟩ := I1
  obtain ⟨tf, hf, rf, hq, rq, hs, rs, hd, hp, hn, rn, hc, mo, qt, qk, qv, qw, qp, qr, qa, qc, ql, qb, ou, cB, cR, cI, eB, eI, eL, cO⟩ := q
  have hl : lv_has ls 7 [(0, .ref b), (1, .ref tf), (2, .ref mo), (3, .ref ou), (4, .int (nI (6 * t)))] := hl
  show W p l e room_1 s m #[Value.ref b] below meth c H locs (30 + 3 * t) (120000 + 8300 * t) (lw_Z below #[Value.ref b] s) (F0 m 23 ls [])
  refine lv_iload hx hb d_La_law_23 (lv_at hl 4 rfl) ?_
  refine lv_aload_n hx hb d_La_law_25 rfl (lv_at hl 0 rfl) ?_
  refine va_slen hx hb hscr hbl hbA hS d_La_law_26 ?_
  refine lv_bipush (v := 6) hx hb d_La_law_27 (by decide) ?_
  refine lv_isub hx hb d_La_law_29 ?_
  refine lv_icmp_gt (tgt := 846) hx hb d_La_law_30 (by decide) (fun c_30 => ?_) (fun c_30 => ?_)
  · refine lv_iconst (v := 1) hx hb d_La_law_846 (by decide) ?_
    refine va_forget (fun q hq => hAe _ (hS.2.2 q hq)) ?_
    refine W.widen (k := 601024) (n := 7293034) (by omega) (by omega) ?_
    exact lw_ret hx hb hr hlocks d_La_law_847
  · have h6 : 6 * t + 6 ≤ L := lw_c hL h5 c_30
    refine lv_aload_n hx hb d_La_law_33 rfl (lv_at hl 0 rfl) ?_
    refine lv_iload hx hb d_La_law_34 (lv_at hl 4 rfl) ?_
    refine va_sld hx hb hscr hbl hbA hS (vp_in_nI (by omega) (by omega)) d_La_law_36 ?_
    refine lv_bipush (v := 31) hx hb d_La_law_37 (by decide) ?_
    refine lv_iand hx hb d_La_law_39 ?_
    obtain ⟨k0, hk0, ek0⟩ := lw_31 (xs (nI (6 * t)).toNatClampNeg)
    rw [ek0]
    have kk : ∀ (z : Ls) (H : Heap) (locs : List Loc) (ls : Array Slot), lw_I dC dI A s b ⟨tf, hf, rf, hq, rq, hs, rs, hd, hp, hn, rn, hc, mo, qt, qk, qv, qw, qp, qr, qa, qc, ql, qb, ou, cB, cR, cI, eB, eI, eL, cO⟩ z t H locs ls → W p l e room_1 s m #[Value.ref b] below meth c H locs (33 + 3 * t) (128300 + 8300 * t) (lw_Z below #[Value.ref b] s) (F0 m 840 ls []) := by
      intro z H locs ls I9
      obtain ⟨aP, aD, aS, al, aR⟩ := I9
      have hl : lv_has ls 7 [(0, .ref b), (1, .ref tf), (2, .ref mo), (3, .ref ou), (4, .int (nI (6 * t)))] := al
      refine lv_iinc (v := nI (6 * t) + 6) (lv' := [(4, .int (nI (6 * t) + 6)), (0, .ref b), (1, .ref tf), (2, .ref mo), (3, .ref ou)]) hx hb d_La_law_840 hl (k := 4) rfl rfl (by decide) rfl (fun ls hl => ?_)
      refine lv_goto (tgt := 23) hx hb d_La_law_843 (by decide) ?_
      rw [lw_6] at hl
      have a3 : lv_has ls 7 (lw_l ⟨tf, hf, rf, hq, rq, hs, rs, hd, hp, hn, rn, hc, mo, qt, qk, qv, qw, qp, qr, qa, qc, ql, qb, ou, cB, cR, cI, eB, eI, eL, cO⟩ b (t + 1)) := lv_sub hl [1, 2, 3, 4, 0] rfl
      refine W.widen (k := 30 + 3 * (t + 1)) (n := 120000 + 8300 * (t + 1)) (by omega) (by omega) ?_
      exact ih (z, t + 1) H locs ls ⟨And.intro aP (And.intro aD (And.intro aS (And.intro a3 aR))), by show 6 * (t + 1) ≤ L + 5; omega⟩ (by show 3072 - (t + 1) < 3072 - t; omega)
    rcases lw_k hk0 with rfl | rfl | rfl | rfl | rfl | rfl | rfl | rfl | rfl | rfl | rfl | rfl | rfl | rfl | rfl | rfl | rfl | hk0
    · refine lv_tableIn (tgt := 124) hx hb d_La_law_40 (by decide) (by decide) (off := 84) (by decide) (by decide) ?_
      exact law_0 C0 hL h6 I2 kk
    · refine lv_tableIn (tgt := 197) hx hb d_La_law_40 (by decide) (by decide) (off := 157) (by decide) (by decide) ?_
      exact law_1 C0 hL h6 I2 kk
    · refine lv_tableIn (tgt := 222) hx hb d_La_law_40 (by decide) (by decide) (off := 182) (by decide) (by decide) ?_
      exact law_2 C0 hL h6 I2 kk
    · refine lv_tableIn (tgt := 338) hx hb d_La_law_40 (by decide) (by decide) (off := 298) (by decide) (by decide) ?_
      exact law_3 C0 hL h6 I2 kk
    · refine lv_tableIn (tgt := 410) hx hb d_La_law_40 (by decide) (by decide) (off := 370) (by decide) (by decide) ?_
      exact law_4 C0 hL h6 I2 kk
    · refine lv_tableIn (tgt := 454) hx hb d_La_law_40 (by decide) (by decide) (off := 414) (by decide) (by decide) ?_
      exact law_5 C0 hL h6 I2 kk
    · refine lv_tableIn (tgt := 510) hx hb d_La_law_40 (by decide) (by decide) (off := 470) (by decide) (by decide) ?_
      exact law_6 C0 hL h6 I2 kk
    · refine lv_tableIn (tgt := 521) hx hb d_La_law_40 (by decide) (by decide) (off := 481) (by decide) (by decide) ?_
      exact law_7 C0 hL h6 I2 kk
    · refine lv_tableIn (tgt := 534) hx hb d_La_law_40 (by decide) (by decide) (off := 494) (by decide) (by decide) ?_
      exact law_8 C0 hL h6 I2 kk
    · refine lv_tableIn (tgt := 575) hx hb d_La_law_40 (by decide) (by decide) (off := 535) (by decide) (by decide) ?_
      exact law_9 C0 hL h6 I2 kk
    · refine lv_tableIn (tgt := 588) hx hb d_La_law_40 (by decide) (by decide) (off := 548) (by decide) (by decide) ?_
      exact law_10 C0 hL h6 I2 kk
    · refine lv_tableIn (tgt := 651) hx hb d_La_law_40 (by decide) (by decide) (off := 611) (by decide) (by decide) ?_
      exact law_11 C0 hL h6 I2 kk
    · refine lv_tableIn (tgt := 665) hx hb d_La_law_40 (by decide) (by decide) (off := 625) (by decide) (by decide) ?_
      exact law_12 C0 hL h6 I2 kk
    · refine lv_tableIn (tgt := 690) hx hb d_La_law_40 (by decide) (by decide) (off := 650) (by decide) (by decide) ?_
      exact law_13 C0 hL h6 I2 kk
    · refine lv_tableIn (tgt := 703) hx hb d_La_law_40 (by decide) (by decide) (off := 663) (by decide) (by decide) ?_
      exact law_14 C0 hL h6 I2 kk
    · refine lv_tableIn (tgt := 771) hx hb d_La_law_40 (by decide) (by decide) (off := 731) (by decide) (by decide) ?_
      exact law_15 C0 hL h6 I2 kk
    · refine lv_tableIn (tgt := 784) hx hb d_La_law_40 (by decide) (by decide) (off := 744) (by decide) (by decide) ?_
      exact law_16 C0 hL h6 I2 kk
    · refine lv_tableOut (tgt := 840) hx hb d_La_law_40 (lw_out hk0) (by decide) ?_
      refine W.widen (k := 33 + 3 * t) (n := 128300 + 8300 * t) (by omega) (by omega) ?_
      exact kk z H locs ls I2
