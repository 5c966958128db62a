/-! START: what the law finds -/
theorem sk_of {args : Array Value} {s : State} {own tx : String} {k : Nat} {B : List Nat} {A : Nat → Prop} (hN : B.length < 2 ^ 31) (h1 : (Cond.stringRef own k tx).before args s = true) (hex : (Cond.exactly (.string own k) "java/lang/String").before args s = true) (hco : (Cond.eq (.field (.string own k) "java/lang/String" "coder" "B") (.int 0)).before args s = true)
    (har : (Cond.arrayOf (.field (.string own k) "java/lang/String" "value" "[B") .byte).before args s = true) (hle : (Cond.eq (.length (.field (.string own k) "java/lang/String" "value" "[B")) (.int (Int32.ofNat B.length))).before args s = true)
    (hel : ∀ j : Nat, j < B.length → (Cond.eq (.elem (.field (.string own k) "java/lang/String" "value" "[B") (.int (Int32.ofNat j))) (.int (sb_b (B.getD j 0)))).before args s = true) (hA : ∀ a : Nat, a < s.heap.size → ¬ A a) :
    ∃ q : Nat × Nat, vk_R own k tx q.1 s ∧ sk_S q.1 q.2 B A s s.heap := by
  obtain ⟨a, c, cA, kA, q1, q2, q3, q4, q5, q6, -⟩ := Cond.exactly_spec (args := args) (first := s) (o := none) (s := s) (idx := []) (t := .string own k) (cls := "java/lang/String") hex
  obtain ⟨t, ht, hT⟩ := va_Tof (f := fun j => .int (sb_b (B.getD j 0))) (A := A) hN har (va_eqt hle) (fun j hj => va_eqt (hel j hj)) hA
  exact ⟨(a, t), vk_R.of h1 q1, ⟨cA, q3, q5, by rw [q6]; exact q2, hA a (Array.getElem?_eq_some_iff.mp q3).1⟩, vk_OFof q1 (va_eqt hco) hA, vk_OFof q1 ht hA, hT⟩
abbrev kz_o (i : Nat) : String := (kxL.getD i ("", 0, "", [])).1
abbrev kz_k (i : Nat) : Nat := (kxL.getD i ("", 0, "", [])).2.1
abbrev kz_t (i : Nat) : String := (kxL.getD i ("", 0, "", [])).2.2.1
/-- the Strings' premises, all of them in the list of the start's conditions -/
abbrev kz_p (i : Nat) : List Cond := [.exactly (.string (kz_o i) (kz_k i)) "java/lang/String", .eq (.field (.string (kz_o i) (kz_k i)) "java/lang/String" "coder" "B") (.int 0), .arrayOf (.field (.string (kz_o i) (kz_k i)) "java/lang/String" "value" "[B") .byte, .eq (.length (.field (.string (kz_o i) (kz_k i)) "java/lang/String" "value" "[B")) (.int (Int32.ofNat (kxB i).length))] ++ (List.range (kxB i).length).map (fun j => Cond.eq (.elem (.field (.string (kz_o i) (kz_k i)) "java/lang/String" "value" "[B") (.int (Int32.ofNat j))) (.int (sb_b ((kxB i).getD j 0))))
def kz_f : List Nat := [44, 52, 61, 70, 80, 91, 100, 110, 125, 137, 148, 158, 165, 176, 182, 189, 236, 252, 268, 317, 348, 360, 369, 379, 387, 397, 408, 420, 430, 441, 457, 470, 482]
theorem kz_m : ∀ i, i < 33 → ((flatC (Jvm.Cond.and given_1 narrow_1)).drop (kz_f.getD i 0)).take (kz_p i).length = kz_p i := by decide +kernel
theorem kz_in {i : Nat} (hi : i < 33) {w : Cond} (h : w ∈ kz_p i) : w ∈ flatC (Jvm.Cond.and given_1 narrow_1) := List.mem_of_mem_drop (List.mem_of_mem_take (by rw [kz_m i hi]; exact h))
theorem kz_el {i j : Nat} (hj : j < (kxB i).length) : Cond.eq (.elem (.field (.string (kz_o i) (kz_k i)) "java/lang/String" "value" "[B") (.int (Int32.ofNat j))) (.int (sb_b ((kxB i).getD j 0))) ∈ kz_p i := List.mem_append_right _ (List.mem_map.mpr ⟨j, List.mem_range.mpr hj, rfl⟩)
theorem kz_ln : ∀ i, i < 33 → (kxB i).length < 2 ^ 31 := by decide +kernel
theorem kz_sr : ∀ i, i < 33 → Cond.stringRef (kz_o i) (kz_k i) (kz_t i) ∈ lw_tbl := by
  intro i hi
  rcases (show i = 0 ∨ i = 1 ∨ i = 2 ∨ i = 3 ∨ i = 4 ∨ i = 5 ∨ i = 6 ∨ i = 7 ∨ i = 8 ∨ i = 9 ∨ i = 10 ∨ i = 11 ∨ i = 12 ∨ i = 13 ∨ i = 14 ∨ i = 15 ∨ i = 16 ∨ i = 17 ∨ i = 18 ∨ i = 19 ∨ i = 20 ∨ i = 21 ∨ i = 22 ∨ i = 23 ∨ i = 24 ∨ i = 25 ∨ i = 26 ∨ i = 27 ∨ i = 28 ∨ i = 29 ∨ i = 30 ∨ i = 31 ∨ i = 32 by omega) with rfl | rfl | rfl | rfl | rfl | rfl | rfl | rfl | rfl | rfl | rfl | rfl | rfl | rfl | rfl | rfl | rfl | rfl | rfl | rfl | rfl | rfl | rfl | rfl | rfl | rfl | rfl | rfl | rfl | rfl | rfl | rfl | rfl
  · exact tw_288
  · exact tw_289
  · exact tw_290
  · exact tw_291
  · exact tw_292
  · exact tw_293
  · exact tw_294
  · exact tw_295
  · exact tw_296
  · exact tw_297
  · exact tw_298
  · exact tw_299
  · exact tw_382
  · exact tw_444
  · exact tw_450
  · exact tw_569
  · exact tw_653
  · exact tw_667
  · exact tw_694
  · exact tw_718
  · exact tw_898
  · exact tw_912
  · exact tw_913
  · exact tw_919
  · exact tw_923
  · exact tw_924
  · exact tw_925
  · exact tw_926
  · exact tw_927
  · exact tw_928
  · exact tw_929
  · exact tw_930
  · exact tw_931
theorem kx_of {args : Array Value} {s : State} {A : Nat → Prop} (hA : ∀ a : Nat, a < s.heap.size → ¬ A a) (hgv : (Jvm.Cond.and given_1 narrow_1).before args s = true) (hts : ∀ w ∈ lw_tbl, w.before args s = true) : ∃ ad : Nat → Nat, kx ad A s s.heap := by
  have hs := flat_of_before _ hgv
  have h0 : ∀ i : Nat, ∃ q : Nat × Nat, i < 33 → vk_R (kz_o i) (kz_k i) (kz_t i) q.1 s ∧ sk_S q.1 q.2 (kxB i) A s s.heap := by
    intro i
    by_cases hi : i < 33
    · obtain ⟨q, hq⟩ := sk_of (tx := kz_t i) (A := A) (kz_ln i hi) (hts _ (kz_sr i hi)) (hs _ (kz_in hi (List.mem_append_left _ List.mem_cons_self))) (hs _ (kz_in hi (List.mem_append_left _ (List.mem_cons_of_mem _ List.mem_cons_self)))) (hs _ (kz_in hi (List.mem_append_left _ (List.mem_cons_of_mem _ (List.mem_cons_of_mem _ List.mem_cons_self))))) (hs _ (kz_in hi (List.mem_append_left _ (List.mem_cons_of_mem _ (List.mem_cons_of_mem _ (List.mem_cons_of_mem _ List.mem_cons_self)))))) (fun j hj => hs _ (kz_in hi (kz_el hj))) hA
      exact ⟨q, fun _ => hq⟩
    · exact ⟨(0, 0), fun h => absurd h hi⟩
  obtain ⟨ad, had⟩ := Classical.axiomOfChoice h0
  refine ⟨fun i => if i < 33 then (ad i).1 else (ad (i - 33)).2, va_Zof (hts _ tw_313) (hts _ (List.mem_filter.mp kw_16).1) (va_eqt (hs _ (by decide +kernel))) hA, fun i hi => ?_, ?_⟩
  · have hi : i < 33 := hi
    have e1 : (if i < 33 then (ad i).1 else (ad (i - 33)).2) = (ad i).1 := if_pos hi
    have e2 : (if kxN + i < 33 then (ad (kxN + i)).1 else (ad (kxN + i - 33)).2) = (ad i).2 := by
      rw [if_neg (by show ¬ 33 + i < 33; omega), show kxN + i - 33 = i by show 33 + i - 33 = i; omega]
    show vk_R _ _ _ (if i < 33 then (ad i).1 else (ad (i - 33)).2) s ∧ sk_S (if i < 33 then (ad i).1 else (ad (i - 33)).2) (if kxN + i < 33 then (ad (kxN + i)).1 else (ad (kxN + i - 33)).2) (kxB i) A s s.heap
    rw [e1, e2]
    exact had i hi
  · refine ⟨va_Zqof (hts _ tw_329) (hts _ (List.mem_filter.mp kw_18).1) (hs _ (by decide +kernel)) hA, va_AO.of (hts _ tw_55), ?_, ?_, tz_L.of (hts _ tw_555) (hs _ (by decide +kernel)) hA, tz_L.of (hts _ tw_557) (hs _ (by decide +kernel)) hA, va_Nc.of (hs _ (by decide +kernel))⟩
    · exact List.forall_mem_cons.mpr ⟨va_tabs rfl rfl (hts _ tw_50), List.forall_mem_cons.mpr ⟨va_tabs rfl rfl (hts _ tw_68), List.forall_mem_cons.mpr ⟨va_tabs rfl rfl (hts _ tw_93), List.forall_mem_cons.mpr ⟨va_tabs rfl rfl (hts _ tw_99), List.forall_mem_cons.mpr ⟨va_tabs rfl rfl (hts _ tw_116), fun _ h => absurd h List.not_mem_nil⟩⟩⟩⟩⟩
    · exact List.forall_mem_cons.mpr ⟨va_tabs (kthW_ok _ (List.mem_of_getElem? (i := 0) rfl)) rfl (hts _ tw_532), List.forall_mem_cons.mpr ⟨va_tabs (kthW_ok _ (List.mem_of_getElem? (i := 1) rfl)) rfl (hts _ tw_534), List.forall_mem_cons.mpr ⟨va_tabs (kthW_ok _ (List.mem_of_getElem? (i := 2) rfl)) rfl (hts _ tw_536), List.forall_mem_cons.mpr ⟨va_tabs (kthW_ok _ (List.mem_of_getElem? (i := 3) rfl)) rfl (hts _ tw_563), List.forall_mem_cons.mpr ⟨va_tabs (kthW_ok _ (List.mem_of_getElem? (i := 4) rfl)) rfl (hts _ tw_568), List.forall_mem_cons.mpr ⟨va_tabs (kthW_ok _ (List.mem_of_getElem? (i := 5) rfl)) rfl (hts _ tw_550), List.forall_mem_cons.mpr ⟨va_tabs (kthW_ok _ (List.mem_of_getElem? (i := 6) rfl)) rfl (hts _ tw_530), List.forall_mem_cons.mpr ⟨va_tabs (kthW_ok _ (List.mem_of_getElem? (i := 7) rfl)) rfl (hts _ tw_646), List.forall_mem_cons.mpr ⟨va_tabs (kthW_ok _ (List.mem_of_getElem? (i := 8) rfl)) rfl (hts _ tw_687), fun _ h => absurd h List.not_mem_nil⟩⟩⟩⟩⟩⟩⟩⟩⟩
