
theorem cwh_L_call : CWh RL 97 yL_call cL_call 4 (some .int) [(0, 6, 7, 16), (0, 6, 11, 18)] 3 := ⟨u_10_6, u_10_7, u_3_22, u_10_8, by decide +kernel⟩
theorem cwh_L_pass : CWh RL 109 yL_pass cL_pass 3 (some .int) [(0, 5, 6, 18), (0, 5, 10, 26)] 2 := ⟨u_14_4, u_14_5, u_3_22, u_14_6, by decide +kernel⟩
theorem cwh_L_set : CWh RL 107 yL_set cL_set 4 (some .int) [(0, 6, 7, 16), (0, 6, 11, 18), (0, 6, 15, 26)] 3 := ⟨u_13_8, u_13_9, u_3_22, u_13_10, by decide +kernel⟩
theorem cwh_L_throwBall : CWh RL 104 yL_throwBall cL_throwBall 5 (some .int) [(0, 7, 8, 18)] 4 := ⟨u_12_20, u_12_21, u_3_22, u_12_22, by decide +kernel⟩
theorem cwh_L_walk : CWh RL 99 yL_walk cL_walk 4 (some .int) [(0, 6, 7, 16), (0, 6, 11, 18)] 3 := ⟨u_12_9, u_12_10, u_3_22, u_12_11, by decide +kernel⟩
theorem cw_RL_101 : CWs RL 101 yL_low cL_low 2 (some .int) 2 := ⟨u_4_2, u_4_3, u_3_22, u_4_4, by decide +kernel⟩
theorem cw_RL_23 : CW RL 23 RX6 yX6_set cX6_set 4 (some .int) 2 := ⟨u_13_12, u_13_13, u_13_14, u_1_2, u_13_15, by decide +kernel⟩
set_option maxHeartbeats 4000000 in
set_option maxRecDepth 100000 in
theorem ct_L_set (l : Launch) (L : Lay) (hfl : l.flags = flags0) (g : St) (a v : Int) (ha : 0 ≤ a ∧ a < 3) (hv : lsV a ≤ v ∧ v ≤ msV a) (hh : wh g) (hA : wA g) : Met l yL_set (.codeWith yL_set cL_set 4 (some .int) [(0, 6, 7, 16), (0, 6, 11, 18), (0, 6, 15, 26)] :: wsL_law) { frames := 7, cells := 1, slots := 6, locals := 113 } (va_Pc [.ref (adr L 0 0 0), .int (iI a), .int (iI v)] (HS L g)) (va_Qi (fun (r9 : Int32) (u : St) => ∃ z : Int, r9 = iI z ∧ ((z = -103 ∧ u = g ∧ a = 0 ∧ v < fur g 0) ∨ (z = g 2 0 0 a ∧ u = up (svG g 0) 2 0 0 a v ∧ (a = 0 → fur g 0 ≤ v)))) (fun u t => HS L u t) (Af L)) 1 6 (Af L) := by
  refine ct_mkH (by decide +kernel) (Nat.le_of_ble_eq_true rfl) ?_
  intro pp ee ss mm bel mth cx C hr hlk htab
  show V pp l ee { frames := 7, cells := 1, slots := 6, locals := 113 } ss mm ([.ref (adr L 0 0 0), .int (iI a), .int (iI v)]).toArray bel mth cx 4 L (HH L g) 0 0 _ 0 [(0, .ref (adr L 0 0 0)), (1, .int (iI a)), (2, .int (iI v))] []
  refine v_aload_n (pc := 0) C 0 rfl rfl dL_set_0 ?_
  refine v_iload_n (pc := 1) C 1 rfl rfl dL_set_1 ?_
  refine v_iload_n (pc := 2) C 2 rfl rfl dL_set_2 ?_
  refine v_tryi (pc := 3) C cw_RL_23 rcv_0 (ct_X6_set l L hfl g a v ha hv hh hA) ⟨Nat.le_of_ble_eq_true rfl, Nat.le_of_ble_eq_true rfl⟩ rfl (Nat.le_of_ble_eq_true rfl) ⟨Nat.le_of_ble_eq_true rfl, Nat.le_of_ble_eq_true rfl⟩ rfl dL_set_3 (fun E hE => ?_) (fun rr u0 hP => ?_)
  · obtain ⟨rfl, hE2⟩ := hE
    refine ⟨[⟨0, 6, 7, 16⟩, ⟨0, 6, 11, 18⟩], ⟨0, 6, 15, 26⟩, [], htab, (fun z hz => ?_), by decide, by decide, by decide, u_13_11, fun qx => ?_⟩
    · simp only [List.mem_cons, List.not_mem_nil, or_false] at hz
      rcases hz with rfl | rfl
      · exact ⟨by decide, eIX, u_4_9, by decide, by decide⟩
      · exact ⟨by decide, eIA, u_6_18, by decide, by decide⟩
    · refine v_astore_n (pc := 15) C [(3, .ref qx), (0, .ref (adr L 0 0 0)), (1, .int (iI a)), (2, .int (iI v))] rfl (by decide) rfl dL_set_15 ?_
      refine v_bipush (pc := 16) C rfl dL_set_16 ?_
      exact v_iret (pc := 18) C hr hlk ⟨-103, rfl, Or.inl ⟨rfl, rfl, hE2⟩⟩ dL_set_18
  · obtain ⟨rfl, rfl, hc⟩ := hP
    exact v_iret (pc := 6) C hr hlk ⟨_, rfl, Or.inr ⟨rfl, rfl, hc⟩⟩ dL_set_6
set_option maxHeartbeats 4000000 in
set_option maxRecDepth 100000 in
theorem ct_L_does (l : Launch) (L : Lay) (hfl : l.flags = flags0) (g : St) (k a b : Int) (hk : 0 ≤ k ∧ k ≤ 4) (hh2 : doH g k a b) (hh : wh g) (hA : wA g) (h6 : ∀ p, 0 ≤ p → p < 4 → eOf g 0 p + 2 ≤ 6 → g 1 0 0 2 + 2 ≤ 24) : Met l yL_does (.code yL_does cL_does 4 (some .int) :: wsL_law) { frames := 8, cells := 1, slots := 6, locals := 156 } (va_Pc [.ref (adr L 0 0 0), .int (iI k), .int (iI a), .int (iI b)] (HS L g)) (va_Qi (fun (r9 : Int32) (u : St) => ∃ z : Int, r9 = iI z ∧ (doR5 g u k a b z)) (fun u t => HS L u t) (Af L)) 1 6 (Af L) := by
  refine ct_mk (by decide +kernel) (Nat.le_of_ble_eq_true rfl) ?_
  intro pp ee ss mm bel mth cx C hr hlk
  show V pp l ee { frames := 8, cells := 1, slots := 6, locals := 156 } ss mm ([.ref (adr L 0 0 0), .int (iI k), .int (iI a), .int (iI b)]).toArray bel mth cx 4 L (HH L g) 0 0 _ 0 [(0, .ref (adr L 0 0 0)), (1, .int (iI k)), (2, .int (iI a)), (3, .int (iI b))] []
  obtain ⟨d0, d1, d2, d3, d4⟩ := id hh2
  have lw9 := lw_in b (n := 9) (by decide)
  have lw2 := lw_in b (n := 2) (by decide)
  refine v_iload_n (pc := 0) C 1 rfl rfl dL_does_0 ?_
  by_cases h1_0 : k = 0
  · skip
    refine v_tableIn (pc := 1) (o := 31) C 32 ⟨by (first | assumption | omega | (unfold rg; omega)), by (first | assumption | omega | (unfold rg; omega))⟩ (by (first | assumption | omega | (unfold rg; omega))) (by (first | assumption | omega | (unfold rg; omega))) (by rw [h1_0]; rfl) (by decide) dL_does_1 ?_
    have d := d0 h1_0
    clear d0 d1 d2 d3 d4 hh2
    refine v_aload_n (pc := 32) C 0 rfl rfl dL_does_32 ?_
    refine v_iload_n (pc := 33) C 2 rfl rfl dL_does_33 ?_
    refine v_iload_n (pc := 34) C 3 rfl rfl dL_does_34 ?_
    refine v_calliH (pc := 35) C cwh_L_call (ct_L_call l L g a b (by exact d.1) (by exact d.2) (by first | assumption | omega | (unfold rg; omega)) (by first | assumption | omega | (unfold rg; omega)) (by first | assumption | omega | (unfold rg; omega))) ⟨Nat.le_of_ble_eq_true rfl, Nat.le_of_ble_eq_true rfl⟩ rfl (Nat.le_of_ble_eq_true rfl) ⟨Nat.le_of_ble_eq_true rfl, Nat.le_of_ble_eq_true rfl⟩ rfl dL_does_35 (fun r9 u_2 hP_1 => ?_)
    obtain ⟨z_3, rfl, hP_1⟩ := hP_1
    refine v_widen (k := 1) (n := 6) (Nat.le_of_ble_eq_true rfl) (Nat.le_of_ble_eq_true rfl) ?_
    exact v_iret (pc := 38) C hr hlk (⟨_, rfl, Or.inl ⟨h1_0, hP_1⟩⟩) dL_does_38
  by_cases h1_1 : k = 1
  · skip
    refine v_tableIn (pc := 1) (o := 38) C 39 ⟨by (first | assumption | omega | (unfold rg; omega)), by (first | assumption | omega | (unfold rg; omega))⟩ (by (first | assumption | omega | (unfold rg; omega))) (by (first | assumption | omega | (unfold rg; omega))) (by rw [h1_1]; rfl) (by decide) dL_does_1 ?_
    have d := d1 h1_1
    clear d0 d1 d2 d3 d4 hh2
    refine v_aload_n (pc := 39) C 0 rfl rfl dL_does_39 ?_
    refine v_iload_n (pc := 40) C 2 rfl rfl dL_does_40 ?_
    refine v_iload_n (pc := 41) C 3 rfl rfl dL_does_41 ?_
    refine v_calliH (pc := 42) C cwh_L_walk (ct_L_walk l L g a b (by exact d.1) (by exact d.2) (by first | assumption | omega | (unfold rg; omega)) (by first | assumption | omega | (unfold rg; omega))) ⟨Nat.le_of_ble_eq_true rfl, Nat.le_of_ble_eq_true rfl⟩ rfl (Nat.le_of_ble_eq_true rfl) ⟨Nat.le_of_ble_eq_true rfl, Nat.le_of_ble_eq_true rfl⟩ rfl dL_does_42 (fun r9 u9 hP_4 => ?_)
    obtain ⟨hP_4, hP_4b⟩ := hP_4
    rw [hP_4, hP_4b]
    clear hP_4 hP_4b r9 u9
    refine v_widen (k := 1) (n := 6) (Nat.le_of_ble_eq_true rfl) (Nat.le_of_ble_eq_true rfl) ?_
    exact v_iret (pc := 45) C hr hlk (⟨_, rfl, Or.inr (Or.inl ⟨h1_1, rfl, rfl⟩)⟩) dL_does_45
  by_cases h1_2 : k = 2
  · skip
    refine v_tableIn (pc := 1) (o := 45) C 46 ⟨by (first | assumption | omega | (unfold rg; omega)), by (first | assumption | omega | (unfold rg; omega))⟩ (by (first | assumption | omega | (unfold rg; omega))) (by (first | assumption | omega | (unfold rg; omega))) (by rw [h1_2]; rfl) (by decide) dL_does_1 ?_
    have d := d2 h1_2
    clear d0 d1 d2 d3 d4 hh2
    refine v_aload_n (pc := 46) C 0 rfl rfl dL_does_46 ?_
    refine v_iload_n (pc := 47) C 2 rfl rfl dL_does_47 ?_
    refine v_iconst (pc := 48) C dL_does_48 ?_
    refine v_iload_n (pc := 49) C 3 rfl rfl dL_does_49 ?_
    refine v_bipush (pc := 50) C rfl dL_does_50 ?_
    refine v_calliS (pc := 52) C cw_RL_101 (ct_L_low l L g b 9 (by unfold rg; omega) (by first | assumption | omega | (unfold rg; omega))) ⟨Nat.le_of_ble_eq_true rfl, Nat.le_of_ble_eq_true rfl⟩ rfl (Nat.le_of_ble_eq_true rfl) ⟨Nat.le_of_ble_eq_true rfl, Nat.le_of_ble_eq_true rfl⟩ rfl dL_does_52 (fun r9 u9 hP_5 => ?_)
    obtain ⟨hP_5, hP_5b⟩ := hP_5
    rw [hP_5, hP_5b]
    clear hP_5 hP_5b r9 u9
    refine v_iadd (pc := 55) C dL_does_55 ?_
    refine v_iload_n (pc := 56) C 3 rfl rfl dL_does_56 ?_
    refine v_iconst (pc := 57) C dL_does_57 ?_
    refine v_calliS (pc := 58) C cw_RL_101 (ct_L_low l L g b 2 (by unfold rg; omega) (by first | assumption | omega | (unfold rg; omega))) ⟨Nat.le_of_ble_eq_true rfl, Nat.le_of_ble_eq_true rfl⟩ rfl (Nat.le_of_ble_eq_true rfl) ⟨Nat.le_of_ble_eq_true rfl, Nat.le_of_ble_eq_true rfl⟩ rfl dL_does_58 (fun r9 u9 hP_6 => ?_)
    obtain ⟨hP_6, hP_6b⟩ := hP_6
    rw [hP_6, hP_6b]
    clear hP_6 hP_6b r9 u9
    refine v_if_ne (pc := 61) C 68 ⟨by (first | assumption | omega | (unfold rg; omega)), by (first | assumption | omega | (unfold rg; omega))⟩ (by decide) dL_does_61 (fun h61 => ?_) (fun h61 => ?_)
    · skip
      refine v_iconst (pc := 68) C dL_does_68 ?_
      refine v_calliH (pc := 69) C cwh_L_throwBall (ct_L_throwBall l L g a (1 + (lw b 9)) 0 (by exact d.1) (by omega) (by first | assumption | omega | (unfold rg; omega)) (by first | assumption | omega | (unfold rg; omega)) (by first | assumption | omega | (unfold rg; omega))) ⟨Nat.le_of_ble_eq_true rfl, Nat.le_of_ble_eq_true rfl⟩ rfl (Nat.le_of_ble_eq_true rfl) ⟨Nat.le_of_ble_eq_true rfl, Nat.le_of_ble_eq_true rfl⟩ rfl dL_does_69 (fun r9 u9 hP_7 => ?_)
      obtain ⟨hP_7, hP_7b⟩ := hP_7
      rw [hP_7, hP_7b]
      clear hP_7 hP_7b r9 u9
      refine v_widen (k := 1) (n := 6) (Nat.le_of_ble_eq_true rfl) (Nat.le_of_ble_eq_true rfl) ?_
      exact v_iret (pc := 72) C hr hlk (⟨_, rfl, Or.inr (Or.inr (Or.inl ⟨h1_2, rfl, by first | rw [if_pos (by omega)] | rw [if_neg (by omega)]⟩))⟩) dL_does_72
    · skip
      refine v_iconst (pc := 64) C dL_does_64 ?_
      refine v_goto (pc := 65) C 69 (by decide) dL_does_65 ?_
      refine v_calliH (pc := 69) C cwh_L_throwBall (ct_L_throwBall l L g a (1 + (lw b 9)) 1 (by exact d.1) (by omega) (by first | assumption | omega | (unfold rg; omega)) (by first | assumption | omega | (unfold rg; omega)) (by first | assumption | omega | (unfold rg; omega))) ⟨Nat.le_of_ble_eq_true rfl, Nat.le_of_ble_eq_true rfl⟩ rfl (Nat.le_of_ble_eq_true rfl) ⟨Nat.le_of_ble_eq_true rfl, Nat.le_of_ble_eq_true rfl⟩ rfl dL_does_69 (fun r9 u9 hP_8 => ?_)
      obtain ⟨hP_8, hP_8b⟩ := hP_8
      rw [hP_8, hP_8b]
      clear hP_8 hP_8b r9 u9
      refine v_widen (k := 1) (n := 6) (Nat.le_of_ble_eq_true rfl) (Nat.le_of_ble_eq_true rfl) ?_
      exact v_iret (pc := 72) C hr hlk (⟨_, rfl, Or.inr (Or.inr (Or.inl ⟨h1_2, rfl, by first | rw [if_pos (by omega)] | rw [if_neg (by omega)]⟩))⟩) dL_does_72
  by_cases h1_3 : k = 3
  · skip
    refine v_tableIn (pc := 1) (o := 72) C 73 ⟨by (first | assumption | omega | (unfold rg; omega)), by (first | assumption | omega | (unfold rg; omega))⟩ (by (first | assumption | omega | (unfold rg; omega))) (by (first | assumption | omega | (unfold rg; omega))) (by rw [h1_3]; rfl) (by decide) dL_does_1 ?_
    have d := d3 h1_3
    clear d0 d1 d2 d3 d4 hh2
    refine v_aload_n (pc := 73) C 0 rfl rfl dL_does_73 ?_
    refine v_iload_n (pc := 74) C 2 rfl rfl dL_does_74 ?_
    refine v_iload_n (pc := 75) C 3 rfl rfl dL_does_75 ?_
    refine v_calliH (pc := 76) C cwh_L_set (ct_L_set l L hfl g a b (by exact d.1) (by exact d.2) (by first | assumption | omega | (unfold rg; omega)) (by first | assumption | omega | (unfold rg; omega))) ⟨Nat.le_of_ble_eq_true rfl, Nat.le_of_ble_eq_true rfl⟩ rfl (Nat.le_of_ble_eq_true rfl) ⟨Nat.le_of_ble_eq_true rfl, Nat.le_of_ble_eq_true rfl⟩ rfl dL_does_76 (fun r9 u_10 hP_9 => ?_)
    obtain ⟨z_11, rfl, hP_9⟩ := hP_9
    refine v_widen (k := 1) (n := 6) (Nat.le_of_ble_eq_true rfl) (Nat.le_of_ble_eq_true rfl) ?_
    exact v_iret (pc := 79) C hr hlk (⟨_, rfl, Or.inr (Or.inr (Or.inr (Or.inl ⟨h1_3, hP_9⟩)))⟩) dL_does_79
  refine v_tableOut (pc := 1) C 80 ⟨by (first | assumption | omega | (unfold rg; omega)), by (first | assumption | omega | (unfold rg; omega))⟩ (by (first | assumption | omega | (unfold rg; omega))) (by decide) dL_does_1 ?_
  have d := d4 (by omega)
  clear d0 d1 d2 d3 d4 hh2
  refine v_aload_n (pc := 80) C 0 rfl rfl dL_does_80 ?_
  refine v_iload_n (pc := 81) C 2 rfl rfl dL_does_81 ?_
  refine v_calliH (pc := 82) C cwh_L_pass (ct_L_pass l L g a (by exact d.1) (by exact d.2) (by first | assumption | omega | (unfold rg; omega)) (by first | assumption | omega | (unfold rg; omega))) ⟨Nat.le_of_ble_eq_true rfl, Nat.le_of_ble_eq_true rfl⟩ rfl (Nat.le_of_ble_eq_true rfl) ⟨Nat.le_of_ble_eq_true rfl, Nat.le_of_ble_eq_true rfl⟩ rfl dL_does_82 (fun r9 u_13 hP_12 => ?_)
  obtain ⟨z_14, rfl, hP_12⟩ := hP_12
  refine v_widen (k := 1) (n := 6) (Nat.le_of_ble_eq_true rfl) (Nat.le_of_ble_eq_true rfl) ?_
  exact v_iret (pc := 85) C hr hlk (⟨_, rfl, Or.inr (Or.inr (Or.inr (Or.inr ⟨by omega, hP_12⟩)))⟩) dL_does_85
