/-! what the start gives -/
theorem st_K {s : State} {b : Nat} (hts : ∀ w ∈ lw_tbl, w.before #[Value.ref b] s = true) : ∃ L : Lay, L.2.2 = s.heap.size ∧ su L = 0 ∧ va_K L.1 vwCl (tyL L) s := by
  have hW : ∀ w ∈ wsL_law, w.before #[Value.ref b] s = true := fun w h => hts w (tb_in w h)
  obtain ⟨c0, i0, k0⟩ := u_known hW inlX0 (hW _ u_2_2)
  obtain ⟨c1, i1, k1⟩ := u_known hW inlX1 (hW _ u_1_11)
  obtain ⟨c2, i2, k2⟩ := u_known hW inlX2 (hW _ u_2_18)
  obtain ⟨c3, i3, k3⟩ := u_known hW inlX3 (hW _ u_1_15)
  obtain ⟨c4, i4, k4⟩ := u_known hW inlX4 (hW _ u_2_16)
  obtain ⟨c5, i5, k5⟩ := u_known hW inlX5 (hW _ u_1_22)
  obtain ⟨c6, i6, k6⟩ := u_known hW inlX6 (hW _ u_1_1)
  obtain ⟨a0, ka0, m0, x0, y0, z0⟩ := Cond.arrayClass_spec (hW _ u_1_3)
  obtain ⟨a1, ka1, m1, x1, y1, z1⟩ := Cond.arrayClass_spec (hW _ u_1_19)
  obtain ⟨a2, ka2, m2, x2, y2, z2⟩ := Cond.arrayClass_spec (hW _ u_1_3)
  obtain ⟨m3, a3, ka3, x3, u3, y3, z3, v3⟩ := Cond.arrayOver_spec (hts (.arrayOver (.object "CanyonBall$Player")) (List.mem_append_right _ (by decide +kernel)))
  obtain ⟨m4, a4, ka4, x4, u4, y4, z4, v4⟩ := Cond.arrayOver_spec (hts (.arrayOver (.object "CanyonBall$Echo")) (List.mem_append_right _ (by decide +kernel)))
  obtain ⟨m5, a5, ka5, x5, u5, y5, z5, v5⟩ := Cond.arrayOver_spec (hts (.arrayOver (.object "CanyonBall$Canyon")) (List.mem_append_right _ (by decide +kernel)))
  refine ⟨((fun c => match c with | 0 => c0 | 1 => c1 | 2 => c2 | 3 => c3 | 4 => c4 | 5 => c5 | _ => c6, fun c => match c with | 0 => i0 | 1 => i1 | 2 => i2 | 3 => i3 | 4 => i4 | 5 => i5 | _ => i6), fun t => match t with | 0 => a0 | 1 => a1 | 2 => a2 | 3 => a3 | 4 => a4 | 5 => a5 | _ => 0, s.heap.size), rfl, rfl, fun c q hq => ?_, fun t q hq => ?_⟩
  · rcases c with _ | _ | _ | _ | _ | _ | _ | c
    · cases Option.some.inj hq; exact k0
    · cases Option.some.inj hq; exact k1
    · cases Option.some.inj hq; exact k2
    · cases Option.some.inj hq; exact k3
    · cases Option.some.inj hq; exact k4
    · cases Option.some.inj hq; exact k5
    · cases Option.some.inj hq; exact k6
    · cases hq
  · rcases t with _ | _ | _ | _ | _ | _ | t
    · cases Option.some.inj hq; exact ⟨fun n z => ⟨fun k h => (by cases h), ka0, y0, m0, z0⟩, x0⟩
    · cases Option.some.inj hq; exact ⟨fun n z => ⟨fun k h => (by cases h), ka1, y1, m1, z1⟩, x1⟩
    · cases Option.some.inj hq; exact ⟨fun n z => ⟨fun k h => (by cases h), ka2, y2, m2, z2⟩, x2⟩
    · cases Option.some.inj hq; exact ⟨fun n z => ⟨fun k h => (by cases h), ka3, y3, m3, z3⟩, ka3, m3, y3, z3, x3, v3⟩
    · cases Option.some.inj hq; exact ⟨fun n z => ⟨fun k h => (by cases h), ka4, y4, m4, z4⟩, ka4, m4, y4, z4, x4, v4⟩
    · cases Option.some.inj hq; exact ⟨fun n z => ⟨fun k h => (by cases h), ka5, y5, m5, z5⟩, ka5, m5, y5, z5, x5, v5⟩
    · cases hq
theorem st_str {s : State} {b k : Nat} {tx : String} (h1 : (Cond.stringRef "CanyonBall" k tx).before #[Value.ref b] s = true) (h2 : (Cond.exactly (.string "CanyonBall" k) "java/lang/String").before #[Value.ref b] s = true) : ∃ sa : Nat, vk_R "CanyonBall" k tx sa s := by
  obtain ⟨sa, h3⟩ : ∃ sa : Nat, (Term.string "CanyonBall" k).eval #[Value.ref b] s none [] s = some (.ref sa) := by
    have h := Cond.exactly_spec h2
    obtain ⟨a, _, _, _, h3, _⟩ := h
    exact ⟨a, h3⟩
  exact ⟨sa, vk_R.of h1 h3⟩
theorem st_arr {s : State} {b : Nat} {nm : String} {x0 x1 x2 : Int32} (hl : (Cond.laysStatic "CanyonBall" nm "[I").before #[Value.ref b] s = true) (hini : (Cond.initialized "CanyonBall").before #[Value.ref b] s = true) (harr : (Cond.arrayOf (.static "CanyonBall" nm "[I") .int).before #[Value.ref b] s = true) (hlen : (Cond.eq (.length (.static "CanyonBall" nm "[I")) (.int 3)).before #[Value.ref b] s = true) (h0 : (Cond.eq (.elem (.static "CanyonBall" nm "[I") (.int 0)) (.int x0)).before #[Value.ref b] s = true) (h1 : (Cond.eq (.elem (.static "CanyonBall" nm "[I") (.int 1)) (.int x1)).before #[Value.ref b] s = true) (h2 : (Cond.eq (.elem (.static "CanyonBall" nm "[I") (.int 2)) (.int x2)).before #[Value.ref b] s = true) {A : Nat → Prop} (hA : ∀ a : Nat, a < s.heap.size → ¬ A a) : ∃ t : Nat, va_Z "CanyonBall" nm "[I" (.ref t) A s s.heap ∧ va_T .int t 3 (fun j => .int (([x0, x1, x2] : List Int32).getD j 0)) A s s.heap := by
  obtain ⟨t, e, hT⟩ := va_Tof (N := 3) (f := fun j => .int (([x0, x1, x2] : List Int32).getD j 0)) (by decide) harr (Cond.eq_int hlen rfl) (fun j hj => by
    rcases (by omega : j = 0 ∨ j = 1 ∨ j = 2) with rfl | rfl | rfl
    · exact Cond.eq_int h0 rfl
    · exact Cond.eq_int h1 rfl
    · exact Cond.eq_int h2 rfl) hA
  exact ⟨t, va_Zof hl hini e hA, hT⟩
theorem st_T {s : State} {b : Nat} (hts : ∀ w ∈ lw_tbl, w.before #[Value.ref b] s = true) (hgv : (Jvm.Cond.and given_1 narrow_1).before #[Value.ref b] s = true) {L : Lay} (hL : L.2.2 = s.heap.size) : Stt L s := by
  have hg := flat_of_before _ hgv
  have hA : ∀ a : Nat, a < s.heap.size → ¬ Af L a := fun a h1 h2 => by
    have h3 : L.2.2 ≤ a := h2
    omega
  refine ⟨⟨?_, ?_⟩, ?_, ?_, ?_, ?_, ?_⟩
  · exact vx_Zqof (hts (.laysStatic Bundle.tN "UNASSIGNED_STACK" Bundle.steD) (List.mem_append_right _ (by decide +kernel))) (hts (.initialized Bundle.tN) (List.mem_append_right _ (by decide +kernel))) (hg (.isRef (.static Bundle.tN "UNASSIGNED_STACK" Bundle.steD)) (by decide +kernel)) hA
  · exact vx_Zqof (hts (.laysStatic Bundle.tN "SUPPRESSED_SENTINEL" Bundle.listD) (List.mem_append_right _ (by decide +kernel))) (hts (.initialized Bundle.tN) (List.mem_append_right _ (by decide +kernel))) (hg (.isRef (.static Bundle.tN "SUPPRESSED_SENTINEL" Bundle.listD)) (by decide +kernel)) hA
  · obtain ⟨t1, hz1, ht1⟩ := st_arr (nm := "LEAST_VALUES") (x0 := 8) (x1 := 1) (x2 := 0) (hts (.laysStatic "CanyonBall" "LEAST_VALUES" "[I") (List.mem_append_right _ (by decide +kernel))) (hts (.initialized "CanyonBall") (List.mem_append_right _ (by decide +kernel))) (hg (.arrayOf (.static "CanyonBall" "LEAST_VALUES" "[I") .int) (by decide +kernel)) (hg (.eq (.length (.static "CanyonBall" "LEAST_VALUES" "[I")) (.int 3)) (by decide +kernel)) (hg (.eq (.elem (.static "CanyonBall" "LEAST_VALUES" "[I") (.int 0)) (.int 8)) (by decide +kernel)) (hg (.eq (.elem (.static "CanyonBall" "LEAST_VALUES" "[I") (.int 1)) (.int 1)) (by decide +kernel)) (hg (.eq (.elem (.static "CanyonBall" "LEAST_VALUES" "[I") (.int 2)) (.int 0)) (by decide +kernel)) hA
    obtain ⟨t2, hz2, ht2⟩ := st_arr (nm := "MOST_VALUES") (x0 := 40) (x1 := 9) (x2 := 5) (hts (.laysStatic "CanyonBall" "MOST_VALUES" "[I") (List.mem_append_right _ (by decide +kernel))) (hts (.initialized "CanyonBall") (List.mem_append_right _ (by decide +kernel))) (hg (.arrayOf (.static "CanyonBall" "MOST_VALUES" "[I") .int) (by decide +kernel)) (hg (.eq (.length (.static "CanyonBall" "MOST_VALUES" "[I")) (.int 3)) (by decide +kernel)) (hg (.eq (.elem (.static "CanyonBall" "MOST_VALUES" "[I") (.int 0)) (.int 40)) (by decide +kernel)) (hg (.eq (.elem (.static "CanyonBall" "MOST_VALUES" "[I") (.int 1)) (.int 9)) (by decide +kernel)) (hg (.eq (.elem (.static "CanyonBall" "MOST_VALUES" "[I") (.int 2)) (.int 5)) (by decide +kernel)) hA
    obtain ⟨t3, hz3, ht3⟩ := st_arr (nm := "FIRST_VALUES") (x0 := 12) (x1 := 3) (x2 := 2) (hts (.laysStatic "CanyonBall" "FIRST_VALUES" "[I") (List.mem_append_right _ (by decide +kernel))) (hts (.initialized "CanyonBall") (List.mem_append_right _ (by decide +kernel))) (hg (.arrayOf (.static "CanyonBall" "FIRST_VALUES" "[I") .int) (by decide +kernel)) (hg (.eq (.length (.static "CanyonBall" "FIRST_VALUES" "[I")) (.int 3)) (by decide +kernel)) (hg (.eq (.elem (.static "CanyonBall" "FIRST_VALUES" "[I") (.int 0)) (.int 12)) (by decide +kernel)) (hg (.eq (.elem (.static "CanyonBall" "FIRST_VALUES" "[I") (.int 1)) (.int 3)) (by decide +kernel)) (hg (.eq (.elem (.static "CanyonBall" "FIRST_VALUES" "[I") (.int 2)) (.int 2)) (by decide +kernel)) hA
    exact ⟨t1, t2, t3, ⟨hz1, ht1⟩, ⟨hz2, ht2⟩, ⟨hz3, ht3⟩⟩
  · intro q hq
    simp only [strs, List.mem_cons, List.not_mem_nil, or_false] at hq
    subst hq
    exact st_str (hts (.stringRef "CanyonBall" 97 "something is beyond that place") (List.mem_append_right _ (by decide +kernel))) (hg (.exactly (.string "CanyonBall" 97) "java/lang/String") (by decide +kernel))
  · intro X hX
    simp only [exs, List.mem_cons, List.not_mem_nil, or_false] at hX
    rcases hX with rfl | rfl | rfl
    · exact va_Nw.of rfl (hts (.castable "java/lang/IndexOutOfBoundsException" "java/lang/IndexOutOfBoundsException") (List.mem_append_right _ (by decide +kernel)))
    · exact va_Nw.of rfl (hts (.castable "java/lang/IllegalArgumentException" "java/lang/IllegalArgumentException") (List.mem_append_right _ (by decide +kernel)))
    · exact va_Nw.of rfl (hts (.castable "java/lang/IllegalStateException" "java/lang/IllegalStateException") (List.mem_append_right _ (by decide +kernel)))
  · intro X hX Y hY hXY
    simp only [exs, List.mem_cons, List.not_mem_nil, or_false] at hX hY
    rcases hX with rfl | rfl | rfl <;> rcases hY with rfl | rfl | rfl
    · exact absurd rfl hXY
    · exact va_Nc.of (hg (.not (.castable "java/lang/IndexOutOfBoundsException" "java/lang/IllegalArgumentException")) (by decide +kernel))
    · exact va_Nc.of (hg (.not (.castable "java/lang/IndexOutOfBoundsException" "java/lang/IllegalStateException")) (by decide +kernel))
    · exact va_Nc.of (hg (.not (.castable "java/lang/IllegalArgumentException" "java/lang/IndexOutOfBoundsException")) (by decide +kernel))
    · exact absurd rfl hXY
    · exact va_Nc.of (hg (.not (.castable "java/lang/IllegalArgumentException" "java/lang/IllegalStateException")) (by decide +kernel))
    · exact va_Nc.of (hg (.not (.castable "java/lang/IllegalStateException" "java/lang/IndexOutOfBoundsException")) (by decide +kernel))
    · exact va_Nc.of (hg (.not (.castable "java/lang/IllegalStateException" "java/lang/IllegalArgumentException")) (by decide +kernel))
    · exact absurd rfl hXY
  · intro Y hY
    simp only [dcs, List.mem_cons, List.not_mem_nil, or_false] at hY
    rcases hY with rfl | rfl | rfl
    · exact va_Nw.of rfl (hts (.declares (Bundle.initS "java/lang/RuntimeException")) (List.mem_append_right _ (by decide +kernel)))
    · exact va_Nw.of rfl (hts (.declares (Bundle.initS "java/lang/Exception")) (List.mem_append_right _ (by decide +kernel)))
    · exact va_Nw.of rfl (hts (.declares (Bundle.initS Bundle.tN)) (List.mem_append_right _ (by decide +kernel)))
theorem st_X {s : State} {b : Nat} (hts : ∀ w ∈ lw_tbl, w.before #[Value.ref b] s = true) : Xt s := by
  refine ⟨⟨?_, ?_, ?_, ?_, ?_⟩, ?_, ?_, ?_⟩
  · exact va_Nw.of rfl (hts (.methodLinkNest RX1 17 yX0_init "CanyonBall") (List.mem_append_right _ (by decide +kernel)))
  · exact va_Nw.of rfl (hts (.methodLinkNest RX1 40 yX2_init "CanyonBall") (List.mem_append_right _ (by decide +kernel)))
  · exact va_Nw.of rfl (hts (.methodLinkNest RX6 33 yX5_init "CanyonBall") (List.mem_append_right _ (by decide +kernel)))
  · exact va_Nw.of rfl (hts (.methodLinkNest RX6 40 yX0_init "CanyonBall") (List.mem_append_right _ (by decide +kernel)))
  · exact va_Nw.of rfl (hts (.fieldLinkNest RX1 34 "CanyonBall" "FIRST_VALUES" "[I" "CanyonBall") (List.mem_append_right _ (by decide +kernel)))
  · exact va_AO.of (hts (.arrayOver (.object "CanyonBall$Player")) (List.mem_append_right _ (by decide +kernel)))
  · exact va_AO.of (hts (.arrayOver (.object "CanyonBall$Echo")) (List.mem_append_right _ (by decide +kernel)))
  · exact va_AO.of (hts (.arrayOver (.object "CanyonBall$Canyon")) (List.mem_append_right _ (by decide +kernel)))
