theorem cw_RX1_80 : CW RX1 80 RX1 yX1_echoesOf cX1_echoesOf 4 (some .int) 1 := ⟨u_8_9, u_8_10, u_8_11, u_1_12, u_8_12, by decide +kernel⟩
theorem cw_RX1_118 : CW RX1 118 RX1 yX1_echoClashes cX1_echoClashes 4 (some .boolean) 1 := ⟨u_9_13, u_9_14, u_9_15, u_1_12, u_9_16, by decide +kernel⟩
theorem cw_RX1_143 : CW RX1 143 RX1 yX1_meetsBallAlone cX1_meetsBallAlone 3 (some .boolean) 2 := ⟨u_5_12, u_5_13, u_5_14, u_1_12, u_5_15, by decide +kernel⟩
theorem cw_RX1_153 : CW RX1 153 RX1 yX1_sumOfPlayers cX1_sumOfPlayers 4 (some .int) 1 := ⟨u_7_20, u_7_21, u_7_22, u_1_12, u_7_23, by decide +kernel⟩
theorem cw_RX1_156 : CW RX1 156 RX1 yX1_playerNumber cX1_playerNumber 3 (some .int) 2 := ⟨u_8_0, u_8_1, u_8_2, u_1_12, u_8_3, by decide +kernel⟩
theorem cw_RX1_162 : CW RX1 162 RX0 yX0_rightNumber cX0_rightNumber 1 (some .int) 0 := ⟨u_7_16, u_7_17, u_7_18, u_2_3, u_7_19, by decide +kernel⟩
set_option maxHeartbeats 4000000 in
set_option maxRecDepth 100000 in
theorem ct_X1_turnsToWait (l : Launch) (L : Lay) (g : St) (k d p : Int) (hk : 0 ≤ k ∧ k < 9) (hw : wf g k d) (hd : 0 ≤ d ∧ d ≤ 1) (hp : 0 ≤ p ∧ p < 4) : Met l yX1_turnsToWait (.code yX1_turnsToWait cX1_turnsToWait 6 (some .int) :: wsL_law) { frames := 3, cells := 0, slots := 0, locals := 68 } (va_Pc [.ref (adr L 1 k 0), .int (iI p)] (HS L g)) (va_Qi (fun (r9 : Int32) (u9 : St) => r9 = iI (if eT g k (g 6 k p 0) 0 = eT g k (g 6 k p 0) 1 then -1 else frst (pW g k (g 6 k p 0)) 61 0) ∧ u9 = g) (fun u t => HS L u t) (Af L)) 0 0 (Af L) := by
  refine ct_mk (by decide +kernel) (Nat.le_of_ble_eq_true rfl) ?_
  intro pp ee ss mm bel mth cx C hr hlk
  show V pp l ee { frames := 3, cells := 0, slots := 0, locals := 68 } ss mm ([.ref (adr L 1 k 0), .int (iI p)]).toArray bel mth cx 6 L (HH L g) 0 0 _ 0 [(0, .ref (adr L 1 k 0)), (1, .int (iI p))] []
  obtain ⟨hS0, hS1, hS2, hB0, hB1, hB2, hCl, hN, hPl, hPm, hPj, hEc, hSo⟩ := id hw
  have hpl := hPl p hp.1 hp.2
  have ht1 := eT_in (w := 0) hw hpl
  have ht2 := eT_in (w := 1) hw hpl
  refine v_aload_n (pc := 0) C 0 rfl rfl dX1_turnsToWait_0 ?_
  refine gt_1_5 (pc := 1) C ⟨by (first | assumption | omega | (simp [bl, up] <;> omega)), by (first | assumption | omega | (simp [bl, up] <;> omega))⟩ u_2_13 dX1_turnsToWait_1 ?_
  refine v_iload_n (pc := 4) C 1 rfl rfl dX1_turnsToWait_4 ?_
  refine al_4 (pc := 5) C ⟨by (first | assumption | omega | (simp [bl, up] <;> omega)), by (first | assumption | omega | (simp [bl, up] <;> omega))⟩ ⟨by (first | assumption | omega | (simp [bl, up] <;> omega)), by (first | assumption | omega | (simp [bl, up] <;> omega))⟩ dX1_turnsToWait_5 ?_
  refine gt_6_0 (pc := 6) C ⟨⟨by (first | assumption | omega | (simp [bl, up] <;> omega)), by (first | assumption | omega | (simp [bl, up] <;> omega))⟩, ⟨by (first | assumption | omega | (simp [bl, up] <;> omega)), by (first | assumption | omega | (simp [bl, up] <;> omega))⟩⟩ u_4_23 dX1_turnsToWait_6 (g 6 k p 0) (rfl) ?_
  refine v_istore_n (pc := 9) C [(2, .int (iI (g 6 k p 0))), (0, .ref (adr L 1 k 0)), (1, .int (iI p))] rfl (by decide) rfl dX1_turnsToWait_9 ?_
  refine v_aload_n (pc := 10) C 1 rfl rfl dX1_turnsToWait_10 ?_
  refine v_iload_n (pc := 11) C 0 rfl rfl dX1_turnsToWait_11 ?_
  refine v_iconst (pc := 12) C dX1_turnsToWait_12 ?_
  refine v_calliV (pc := 13) C cw_RX1_91 (rcv_1 ⟨by (first | assumption | omega | (simp [bl, up] <;> omega)), by (first | assumption | omega | (simp [bl, up] <;> omega))⟩) (ct_X1_echoTime l L g k (g 6 k p 0) 0 (by first | assumption | omega | (simp [bl, up] <;> omega)) (by first | assumption | omega | (simp [bl, up] <;> omega)) (by first | assumption | omega | (simp [bl, up] <;> omega)) (by first | assumption | omega | (simp [bl, up] <;> omega)) (by first | assumption | omega | (simp [bl, up] <;> omega)) (by first | assumption | omega | (simp [bl, up] <;> omega))) ⟨Nat.le_of_ble_eq_true rfl, Nat.le_of_ble_eq_true rfl⟩ rfl (Nat.le_of_ble_eq_true rfl) ⟨Nat.le_of_ble_eq_true rfl, Nat.le_of_ble_eq_true rfl⟩ rfl dX1_turnsToWait_13 (fun r9 u9 hP_1 => ?_)
  obtain ⟨hP_1, hP_1b⟩ := hP_1
  rw [hP_1, hP_1b]
  clear hP_1 hP_1b r9 u9
  refine v_istore_n (pc := 16) C [(3, .int (iI (eT g k (g 6 k p 0) 0))), (2, .int (iI (g 6 k p 0))), (0, .ref (adr L 1 k 0)), (1, .int (iI p))] rfl (by decide) rfl dX1_turnsToWait_16 ?_
  refine v_aload_n (pc := 17) C 2 rfl rfl dX1_turnsToWait_17 ?_
  refine v_iload_n (pc := 18) C 1 rfl rfl dX1_turnsToWait_18 ?_
  refine v_iconst (pc := 19) C dX1_turnsToWait_19 ?_
  refine v_calliV (pc := 20) C cw_RX1_91 (rcv_1 ⟨by (first | assumption | omega | (simp [bl, up] <;> omega)), by (first | assumption | omega | (simp [bl, up] <;> omega))⟩) (ct_X1_echoTime l L g k (g 6 k p 0) 1 (by first | assumption | omega | (simp [bl, up] <;> omega)) (by first | assumption | omega | (simp [bl, up] <;> omega)) (by first | assumption | omega | (simp [bl, up] <;> omega)) (by first | assumption | omega | (simp [bl, up] <;> omega)) (by first | assumption | omega | (simp [bl, up] <;> omega)) (by first | assumption | omega | (simp [bl, up] <;> omega))) ⟨Nat.le_of_ble_eq_true rfl, Nat.le_of_ble_eq_true rfl⟩ rfl (Nat.le_of_ble_eq_true rfl) ⟨Nat.le_of_ble_eq_true rfl, Nat.le_of_ble_eq_true rfl⟩ rfl dX1_turnsToWait_20 (fun r9 u9 hP_2 => ?_)
  obtain ⟨hP_2, hP_2b⟩ := hP_2
  rw [hP_2, hP_2b]
  clear hP_2 hP_2b r9 u9
  refine v_istore (pc := 23) C [(4, .int (iI (eT g k (g 6 k p 0) 1))), (3, .int (iI (eT g k (g 6 k p 0) 0))), (2, .int (iI (g 6 k p 0))), (0, .ref (adr L 1 k 0)), (1, .int (iI p))] (by decide) rfl dX1_turnsToWait_23 ?_
  refine v_iload_n (pc := 25) C 1 rfl rfl dX1_turnsToWait_25 ?_
  refine v_iload (pc := 26) C 0 rfl dX1_turnsToWait_26 ?_
  refine v_icmp_ne (pc := 28) C 33 ⟨by (first | assumption | omega | (simp [bl, up] <;> omega)), by (first | assumption | omega | (simp [bl, up] <;> omega))⟩ ⟨by (first | assumption | omega | (simp [bl, up] <;> omega)), by (first | assumption | omega | (simp [bl, up] <;> omega))⟩ (by decide) dX1_turnsToWait_28 (fun h28 => ?_) (fun h28 => ?_)
  · skip
    refine v_iconst (pc := 33) C dX1_turnsToWait_33 ?_
    refine v_istore (pc := 34) C [(5, .int (iI 0)), (4, .int (iI (eT g k (g 6 k p 0) 1))), (3, .int (iI (eT g k (g 6 k p 0) 0))), (2, .int (iI (g 6 k p 0))), (0, .ref (adr L 1 k 0)), (1, .int (iI p))] (by decide) rfl dX1_turnsToWait_34 ?_
    have lb36 : ∀ (n9 : Nat) (i : Int), (0 ≤ i ∧ i ≤ 61) → (frst (pW g k (g 6 k p 0)) 61 0 = frst (pW g k (g 6 k p 0)) (61 - i).toNat i) → (61 - i).toNat < n9 → V pp l ee { frames := 3, cells := 0, slots := 0, locals := 68 } ss mm ([.ref (adr L 1 k 0), .int (iI p)]).toArray bel mth cx 6 L (HH L g) 0 0 (MQ bel (va_Qi (fun (r9 : Int32) (u9 : St) => r9 = iI (if eT g k (g 6 k p 0) 0 = eT g k (g 6 k p 0) 1 then -1 else frst (pW g k (g 6 k p 0)) 61 0) ∧ u9 = g) (fun u t => HS L u t) (Af L)) ([.ref (adr L 1 k 0), .int (iI p)]).toArray ss 0 0 (Af L)) 36 [(0, .ref (adr L 1 k 0)), (1, .int (iI p)), (2, .int (iI (g 6 k p 0))), (3, .int (iI (eT g k (g 6 k p 0) 0))), (4, .int (iI (eT g k (g 6 k p 0) 1))), (5, .int (iI i))] [] := by
      intro n9
      induction n9 with
      | zero => intro i hi hc hm9; exact absurd hm9 (Nat.not_lt_zero _)
      | succ n9 ih9 =>
        intro i hi hc hm9
        have ih36 := ih9
        refine v_iload (pc := 36) C 5 rfl dX1_turnsToWait_36 ?_
        refine v_bipush (pc := 38) C rfl dX1_turnsToWait_38 ?_
        refine v_icmp_gt (pc := 40) C 77 ⟨by (first | assumption | omega | (simp [bl, up] <;> omega)), by (first | assumption | omega | (simp [bl, up] <;> omega))⟩ ⟨by (first | assumption | omega | (simp [bl, up] <;> omega)), by (first | assumption | omega | (simp [bl, up] <;> omega))⟩ (by decide) dX1_turnsToWait_40 (fun h40 => ?_) (fun h40 => ?_)
        · skip
          refine v_iconst (pc := 77) C dX1_turnsToWait_77 ?_
          exact v_iret (pc := 78) C hr hlk (⟨congrArg iI (by rw [if_neg (by omega), hc, show i = 61 by omega]; rfl), rfl⟩) dX1_turnsToWait_78
        · skip
          refine v_aload_n (pc := 43) C 0 rfl rfl dX1_turnsToWait_43 ?_
          refine v_iload_n (pc := 44) C 2 rfl rfl dX1_turnsToWait_44 ?_
          refine v_iload (pc := 45) C 5 rfl dX1_turnsToWait_45 ?_
          refine v_iload_n (pc := 47) C 3 rfl rfl dX1_turnsToWait_47 ?_
          refine v_iadd (pc := 48) C dX1_turnsToWait_48 ?_
          refine v_calliV (pc := 49) C cw_RX1_143 (rcv_1 ⟨by (first | assumption | omega | (simp [bl, up] <;> omega)), by (first | assumption | omega | (simp [bl, up] <;> omega))⟩) (ct_X1_meetsBallAlone l L g k d (g 6 k p 0) (i + (eT g k (g 6 k p 0) 0)) (by first | assumption | omega | (simp [bl, up] <;> omega)) (by first | assumption | omega | (simp [bl, up] <;> omega)) (by first | assumption | omega | (simp [bl, up] <;> omega)) (by first | assumption | omega | (simp [bl, up] <;> omega)) (by first | assumption | omega | (simp [bl, up] <;> omega))) ⟨Nat.le_of_ble_eq_true rfl, Nat.le_of_ble_eq_true rfl⟩ rfl (Nat.le_of_ble_eq_true rfl) ⟨Nat.le_of_ble_eq_true rfl, Nat.le_of_ble_eq_true rfl⟩ rfl dX1_turnsToWait_49 (fun r9 u9 hP_3 => ?_)
          obtain ⟨hP_3, hP_3b⟩ := hP_3
          rw [hP_3, hP_3b]
          clear hP_3 hP_3b r9 u9
          refine v_if_ne (pc := 52) C 68 ⟨by split <;> decide, by split <;> decide⟩ (by decide) dX1_turnsToWait_52 (fun h52 => ?_) (fun h52 => ?_)
          · skip
            refine v_iload (pc := 68) C 5 rfl dX1_turnsToWait_68 ?_
            exact v_iret (pc := 70) C hr hlk (⟨congrArg iI (by rw [if_neg (by omega), hc, frst_s (by omega), if_pos]; simp only [pW, decide_eq_true_eq]; grind), rfl⟩) dX1_turnsToWait_70
          · skip
            refine v_aload_n (pc := 55) C 0 rfl rfl dX1_turnsToWait_55 ?_
            refine v_iload_n (pc := 56) C 2 rfl rfl dX1_turnsToWait_56 ?_
            refine v_iload (pc := 57) C 5 rfl dX1_turnsToWait_57 ?_
            refine v_iload (pc := 59) C 4 rfl dX1_turnsToWait_59 ?_
            refine v_iadd (pc := 61) C dX1_turnsToWait_61 ?_
            refine v_calliV (pc := 62) C cw_RX1_143 (rcv_1 ⟨by (first | assumption | omega | (simp [bl, up] <;> omega)), by (first | assumption | omega | (simp [bl, up] <;> omega))⟩) (ct_X1_meetsBallAlone l L g k d (g 6 k p 0) (i + (eT g k (g 6 k p 0) 1)) (by first | assumption | omega | (simp [bl, up] <;> omega)) (by first | assumption | omega | (simp [bl, up] <;> omega)) (by first | assumption | omega | (simp [bl, up] <;> omega)) (by first | assumption | omega | (simp [bl, up] <;> omega)) (by first | assumption | omega | (simp [bl, up] <;> omega))) ⟨Nat.le_of_ble_eq_true rfl, Nat.le_of_ble_eq_true rfl⟩ rfl (Nat.le_of_ble_eq_true rfl) ⟨Nat.le_of_ble_eq_true rfl, Nat.le_of_ble_eq_true rfl⟩ rfl dX1_turnsToWait_62 (fun r9 u9 hP_4 => ?_)
            obtain ⟨hP_4, hP_4b⟩ := hP_4
            rw [hP_4, hP_4b]
            clear hP_4 hP_4b r9 u9
            refine v_if_eq (pc := 65) C 71 ⟨by split <;> decide, by split <;> decide⟩ (by decide) dX1_turnsToWait_65 (fun h65 => ?_) (fun h65 => ?_)
            · skip
              refine v_iinc (pc := 71) C 5 [(5, .int (iI (i + 1))), (0, .ref (adr L 1 k 0)), (1, .int (iI p)), (2, .int (iI (g 6 k p 0))), (3, .int (iI (eT g k (g 6 k p 0) 0))), (4, .int (iI (eT g k (g 6 k p 0) 1)))] rfl (by decide) rfl dX1_turnsToWait_71 ?_
              refine v_goto (pc := 74) C 36 (by decide) dX1_turnsToWait_74 ?_
              refine v_lsub [1, 2, 3, 4, 5, 0] rfl ?_
              exact ih36 (i + 1) (by omega) (by rw [hc, frst_s (by omega), if_neg]; simp only [pW, decide_eq_true_eq]; grind) (by omega)
            · skip
              refine v_iload (pc := 68) C 5 rfl dX1_turnsToWait_68 ?_
              exact v_iret (pc := 70) C hr hlk (⟨congrArg iI (by rw [if_neg (by omega), hc, frst_s (by omega), if_pos]; simp only [pW, decide_eq_true_eq]; grind), rfl⟩) dX1_turnsToWait_70
    refine v_lsub [4, 5, 3, 2, 1, 0] rfl ?_
    exact lb36 _ 0 (by omega) (by rfl) (Nat.lt_succ_self _)
  · skip
    refine v_iconst (pc := 31) C dX1_turnsToWait_31 ?_
    exact v_iret (pc := 32) C hr hlk (⟨congrArg iI (by rw [if_pos (by omega)]), rfl⟩) dX1_turnsToWait_32
set_option maxHeartbeats 4000000 in
set_option maxRecDepth 100000 in
theorem ct_X1_turnsToQuiet (l : Launch) (L : Lay) (g : St) (k d : Int) (hk : 0 ≤ k ∧ k < 9) (hw : wf g k d) (hd : 0 ≤ d ∧ d ≤ 1) : Met l yX1_turnsToQuiet (.code yX1_turnsToQuiet cX1_turnsToQuiet 1 (some .int) :: wsL_law) { frames := 0, cells := 0, slots := 0, locals := 0 } (va_Pc [.ref (adr L 1 k 0)] (HS L g)) (va_Qi (fun (r9 : Int32) (u9 : St) => r9 = iI (if 0 < g 1 k 0 2 then eF g k (g 1 k 0 2 - 1) 3 - g 1 k 0 0 else 0) ∧ u9 = g) (fun u t => HS L u t) (Af L)) 0 0 (Af L) := by
  refine ct_mk (by decide +kernel) (Nat.le_of_ble_eq_true rfl) ?_
  intro pp ee ss mm bel mth cx C hr hlk
  show V pp l ee { frames := 0, cells := 0, slots := 0, locals := 0 } ss mm ([.ref (adr L 1 k 0)]).toArray bel mth cx 1 L (HH L g) 0 0 _ 0 [(0, .ref (adr L 1 k 0))] []
  obtain ⟨hS0, hS1, hS2, hB0, hB1, hB2, hCl, hN, hPl, hPm, hPj, hEc, hSo⟩ := id hw
  refine v_aload_n (pc := 0) C 0 rfl rfl dX1_turnsToQuiet_0 ?_
  refine gt_1_2 (pc := 1) C ⟨by (first | assumption | omega | (simp [bl, up] <;> omega)), by (first | assumption | omega | (simp [bl, up] <;> omega))⟩ u_6_2 dX1_turnsToQuiet_1 (g 1 k 0 2) (rfl) ?_
  refine v_if_le (pc := 4) C 29 ⟨by (first | assumption | omega | (simp [bl, up] <;> omega)), by (first | assumption | omega | (simp [bl, up] <;> omega))⟩ (by decide) dX1_turnsToQuiet_4 (fun h4 => ?_) (fun h4 => ?_)
  · skip
    refine v_iconst (pc := 29) C dX1_turnsToQuiet_29 ?_
    exact v_iret (pc := 30) C hr hlk (⟨congrArg iI (by unfold eF; grind), rfl⟩) dX1_turnsToQuiet_30
  · skip
    refine v_aload_n (pc := 7) C 0 rfl rfl dX1_turnsToQuiet_7 ?_
    refine gt_1_6 (pc := 8) C ⟨by (first | assumption | omega | (simp [bl, up] <;> omega)), by (first | assumption | omega | (simp [bl, up] <;> omega))⟩ u_2_15 dX1_turnsToQuiet_8 ?_
    refine v_aload_n (pc := 11) C 0 rfl rfl dX1_turnsToQuiet_11 ?_
    refine gt_1_2 (pc := 12) C ⟨by (first | assumption | omega | (simp [bl, up] <;> omega)), by (first | assumption | omega | (simp [bl, up] <;> omega))⟩ u_6_2 dX1_turnsToQuiet_12 (g 1 k 0 2) (rfl) ?_
    refine v_iconst (pc := 15) C dX1_turnsToQuiet_15 ?_
    refine v_isub (pc := 16) C dX1_turnsToQuiet_16 ?_
    refine al_5 (pc := 17) C ⟨by (first | assumption | omega | (simp [bl, up] <;> omega)), by (first | assumption | omega | (simp [bl, up] <;> omega))⟩ ⟨by (first | assumption | omega | (simp [bl, up] <;> omega)), by (first | assumption | omega | (simp [bl, up] <;> omega))⟩ dX1_turnsToQuiet_17 (g 5 k 0 ((g 1 k 0 2) - 1)) (rfl) ?_
    have hp17 := hPm ((g 1 k 0 2) - 1) (by first | assumption | omega | (simp [bl, up] <;> omega)) (by first | assumption | omega | (simp [bl, up] <;> omega))
    have he17 := hEc ((g 1 k 0 2) - 1) (by first | assumption | omega | (simp [bl, up] <;> omega)) (by first | assumption | omega | (simp [bl, up] <;> omega))
    unfold okE at he17
    refine gt_7_3 (pc := 18) C ⟨⟨by (first | assumption | omega | (simp [bl, up] <;> omega)), by (first | assumption | omega | (simp [bl, up] <;> omega))⟩, ⟨by (first | assumption | omega | (simp [bl, up] <;> omega)), by (first | assumption | omega | (simp [bl, up] <;> omega))⟩⟩ u_9_11 dX1_turnsToQuiet_18 (g 7 k (g 5 k 0 ((g 1 k 0 2) - 1)) 3) (rfl) ?_
    refine v_aload_n (pc := 21) C 0 rfl rfl dX1_turnsToQuiet_21 ?_
    refine gt_1_0 (pc := 22) C ⟨by (first | assumption | omega | (simp [bl, up] <;> omega)), by (first | assumption | omega | (simp [bl, up] <;> omega))⟩ u_6_3 dX1_turnsToQuiet_22 (g 1 k 0 0) (rfl) ?_
    refine v_isub (pc := 25) C dX1_turnsToQuiet_25 ?_
    refine v_goto (pc := 26) C 30 (by decide) dX1_turnsToQuiet_26 ?_
    exact v_iret (pc := 30) C hr hlk (⟨congrArg iI (by unfold eF; grind), rfl⟩) dX1_turnsToQuiet_30
set_option maxHeartbeats 4000000 in
set_option maxRecDepth 100000 in
theorem ct_X1_playerNumber (l : Launch) (L : Lay) (g : St) (k d p w : Int) (hk : 0 ≤ k ∧ k < 9) (hw : wf g k d) (hd : 0 ≤ d ∧ d ≤ 1) (hp : 0 ≤ p ∧ p < 4) (hw2 : 0 ≤ w ∧ w ≤ 6) : Met l yX1_playerNumber (.code yX1_playerNumber cX1_playerNumber 3 (some .int) :: wsL_law) { frames := 1, cells := 0, slots := 0, locals := 23 } (va_Pc [.ref (adr L 1 k 0), .int (iI p), .int (iI w)] (HS L g)) (va_Qi (fun (r9 : Int32) (u9 : St) => r9 = iI (plN g k p w) ∧ u9 = g) (fun u t => HS L u t) (Af L)) 0 0 (Af L) := by
  refine ct_mk (by decide +kernel) (Nat.le_of_ble_eq_true rfl) ?_
  intro pp ee ss mm bel mth cx C hr hlk
  show V pp l ee { frames := 1, cells := 0, slots := 0, locals := 23 } ss mm ([.ref (adr L 1 k 0), .int (iI p), .int (iI w)]).toArray bel mth cx 3 L (HH L g) 0 0 _ 0 [(0, .ref (adr L 1 k 0)), (1, .int (iI p)), (2, .int (iI w))] []
  obtain ⟨hS0, hS1, hS2, hB0, hB1, hB2, hCl, hN, hPl, hPm, hPj, hEc, hSo⟩ := id hw
  refine v_iload_n (pc := 0) C 2 rfl rfl dX1_playerNumber_0 ?_
  by_cases h1_0 : w = 0
  · skip
    refine v_tableIn (pc := 1) (o := 39) C 40 ⟨by (first | assumption | omega | (simp [bl, up] <;> omega)), by (first | assumption | omega | (simp [bl, up] <;> omega))⟩ (by (first | assumption | omega | (simp [bl, up] <;> omega))) (by (first | assumption | omega | (simp [bl, up] <;> omega))) (by rw [h1_0]; rfl) (by decide) dX1_playerNumber_1 ?_
    refine v_aload_n (pc := 40) C 0 rfl rfl dX1_playerNumber_40 ?_
    refine gt_1_5 (pc := 41) C ⟨by (first | assumption | omega | (simp [bl, up] <;> omega)), by (first | assumption | omega | (simp [bl, up] <;> omega))⟩ u_2_13 dX1_playerNumber_41 ?_
    refine v_iload_n (pc := 44) C 1 rfl rfl dX1_playerNumber_44 ?_
    refine al_4 (pc := 45) C ⟨by (first | assumption | omega | (simp [bl, up] <;> omega)), by (first | assumption | omega | (simp [bl, up] <;> omega))⟩ ⟨by (first | assumption | omega | (simp [bl, up] <;> omega)), by (first | assumption | omega | (simp [bl, up] <;> omega))⟩ dX1_playerNumber_45 ?_
    refine gt_6_0 (pc := 46) C ⟨⟨by (first | assumption | omega | (simp [bl, up] <;> omega)), by (first | assumption | omega | (simp [bl, up] <;> omega))⟩, ⟨by (first | assumption | omega | (simp [bl, up] <;> omega)), by (first | assumption | omega | (simp [bl, up] <;> omega))⟩⟩ u_4_23 dX1_playerNumber_46 (g 6 k p 0) (rfl) ?_
    exact v_iret (pc := 49) C hr hlk (⟨congrArg iI (by unfold plN; grind), rfl⟩) dX1_playerNumber_49
  by_cases h1_1 : w = 1
  · skip
    refine v_tableIn (pc := 1) (o := 49) C 50 ⟨by (first | assumption | omega | (simp [bl, up] <;> omega)), by (first | assumption | omega | (simp [bl, up] <;> omega))⟩ (by (first | assumption | omega | (simp [bl, up] <;> omega))) (by (first | assumption | omega | (simp [bl, up] <;> omega))) (by rw [h1_1]; rfl) (by decide) dX1_playerNumber_1 ?_
    refine v_aload_n (pc := 50) C 0 rfl rfl dX1_playerNumber_50 ?_
    refine gt_1_5 (pc := 51) C ⟨by (first | assumption | omega | (simp [bl, up] <;> omega)), by (first | assumption | omega | (simp [bl, up] <;> omega))⟩ u_2_13 dX1_playerNumber_51 ?_
    refine v_iload_n (pc := 54) C 1 rfl rfl dX1_playerNumber_54 ?_
    refine al_4 (pc := 55) C ⟨by (first | assumption | omega | (simp [bl, up] <;> omega)), by (first | assumption | omega | (simp [bl, up] <;> omega))⟩ ⟨by (first | assumption | omega | (simp [bl, up] <;> omega)), by (first | assumption | omega | (simp [bl, up] <;> omega))⟩ dX1_playerNumber_55 ?_
    refine gt_6_1 (pc := 56) C ⟨⟨by (first | assumption | omega | (simp [bl, up] <;> omega)), by (first | assumption | omega | (simp [bl, up] <;> omega))⟩, ⟨by (first | assumption | omega | (simp [bl, up] <;> omega)), by (first | assumption | omega | (simp [bl, up] <;> omega))⟩⟩ u_8_4 dX1_playerNumber_56 (g 6 k p 1) (rfl) ?_
    exact v_iret (pc := 59) C hr hlk (⟨congrArg iI (by unfold plN; grind), rfl⟩) dX1_playerNumber_59
  by_cases h1_2 : w = 2
  · skip
    refine v_tableIn (pc := 1) (o := 59) C 60 ⟨by (first | assumption | omega | (simp [bl, up] <;> omega)), by (first | assumption | omega | (simp [bl, up] <;> omega))⟩ (by (first | assumption | omega | (simp [bl, up] <;> omega))) (by (first | assumption | omega | (simp [bl, up] <;> omega))) (by rw [h1_2]; rfl) (by decide) dX1_playerNumber_1 ?_
    refine v_aload_n (pc := 60) C 0 rfl rfl dX1_playerNumber_60 ?_
    refine gt_1_5 (pc := 61) C ⟨by (first | assumption | omega | (simp [bl, up] <;> omega)), by (first | assumption | omega | (simp [bl, up] <;> omega))⟩ u_2_13 dX1_playerNumber_61 ?_
    refine v_iload_n (pc := 64) C 1 rfl rfl dX1_playerNumber_64 ?_
    refine al_4 (pc := 65) C ⟨by (first | assumption | omega | (simp [bl, up] <;> omega)), by (first | assumption | omega | (simp [bl, up] <;> omega))⟩ ⟨by (first | assumption | omega | (simp [bl, up] <;> omega)), by (first | assumption | omega | (simp [bl, up] <;> omega))⟩ dX1_playerNumber_65 ?_
    refine gt_6_2 (pc := 66) C ⟨⟨by (first | assumption | omega | (simp [bl, up] <;> omega)), by (first | assumption | omega | (simp [bl, up] <;> omega))⟩, ⟨by (first | assumption | omega | (simp [bl, up] <;> omega)), by (first | assumption | omega | (simp [bl, up] <;> omega))⟩⟩ u_8_5 dX1_playerNumber_66 (g 6 k p 2) (rfl) ?_
    exact v_iret (pc := 69) C hr hlk (⟨congrArg iI (by unfold plN; grind), rfl⟩) dX1_playerNumber_69
  by_cases h1_3 : w = 3
  · skip
    refine v_tableIn (pc := 1) (o := 69) C 70 ⟨by (first | assumption | omega | (simp [bl, up] <;> omega)), by (first | assumption | omega | (simp [bl, up] <;> omega))⟩ (by (first | assumption | omega | (simp [bl, up] <;> omega))) (by (first | assumption | omega | (simp [bl, up] <;> omega))) (by rw [h1_3]; rfl) (by decide) dX1_playerNumber_1 ?_
    refine v_aload_n (pc := 70) C 0 rfl rfl dX1_playerNumber_70 ?_
    refine v_iload_n (pc := 71) C 1 rfl rfl dX1_playerNumber_71 ?_
    refine v_calliV (pc := 72) C cw_RX1_80 (rcv_1 ⟨by (first | assumption | omega | (simp [bl, up] <;> omega)), by (first | assumption | omega | (simp [bl, up] <;> omega))⟩) (ct_X1_echoesOf l L g k d p (by first | assumption | omega | (simp [bl, up] <;> omega)) (by first | assumption | omega | (simp [bl, up] <;> omega)) (by first | assumption | omega | (simp [bl, up] <;> omega)) (by first | assumption | omega | (simp [bl, up] <;> omega))) ⟨Nat.le_of_ble_eq_true rfl, Nat.le_of_ble_eq_true rfl⟩ rfl (Nat.le_of_ble_eq_true rfl) ⟨Nat.le_of_ble_eq_true rfl, Nat.le_of_ble_eq_true rfl⟩ rfl dX1_playerNumber_72 (fun r9 u9 hP_1 => ?_)
    obtain ⟨hP_1, hP_1b⟩ := hP_1
    rw [hP_1, hP_1b]
    clear hP_1 hP_1b r9 u9
    exact v_iret (pc := 75) C hr hlk (⟨congrArg iI (by unfold plN; grind), rfl⟩) dX1_playerNumber_75
  by_cases h1_4 : w = 4
  · skip
    refine v_tableIn (pc := 1) (o := 75) C 76 ⟨by (first | assumption | omega | (simp [bl, up] <;> omega)), by (first | assumption | omega | (simp [bl, up] <;> omega))⟩ (by (first | assumption | omega | (simp [bl, up] <;> omega))) (by (first | assumption | omega | (simp [bl, up] <;> omega))) (by rw [h1_4]; rfl) (by decide) dX1_playerNumber_1 ?_
    refine v_aload_n (pc := 76) C 0 rfl rfl dX1_playerNumber_76 ?_
    refine gt_1_5 (pc := 77) C ⟨by (first | assumption | omega | (simp [bl, up] <;> omega)), by (first | assumption | omega | (simp [bl, up] <;> omega))⟩ u_2_13 dX1_playerNumber_77 ?_
    refine v_iload_n (pc := 80) C 1 rfl rfl dX1_playerNumber_80 ?_
    refine al_4 (pc := 81) C ⟨by (first | assumption | omega | (simp [bl, up] <;> omega)), by (first | assumption | omega | (simp [bl, up] <;> omega))⟩ ⟨by (first | assumption | omega | (simp [bl, up] <;> omega)), by (first | assumption | omega | (simp [bl, up] <;> omega))⟩ dX1_playerNumber_81 ?_
    refine gt_6_3 (pc := 82) C ⟨⟨by (first | assumption | omega | (simp [bl, up] <;> omega)), by (first | assumption | omega | (simp [bl, up] <;> omega))⟩, ⟨by (first | assumption | omega | (simp [bl, up] <;> omega)), by (first | assumption | omega | (simp [bl, up] <;> omega))⟩⟩ u_8_6 dX1_playerNumber_82 (g 6 k p 3) (rfl) ?_
    exact v_iret (pc := 85) C hr hlk (⟨congrArg iI (by unfold plN; grind), rfl⟩) dX1_playerNumber_85
  by_cases h1_5 : w = 5
  · skip
    refine v_tableIn (pc := 1) (o := 85) C 86 ⟨by (first | assumption | omega | (simp [bl, up] <;> omega)), by (first | assumption | omega | (simp [bl, up] <;> omega))⟩ (by (first | assumption | omega | (simp [bl, up] <;> omega))) (by (first | assumption | omega | (simp [bl, up] <;> omega))) (by rw [h1_5]; rfl) (by decide) dX1_playerNumber_1 ?_
    refine v_aload_n (pc := 86) C 0 rfl rfl dX1_playerNumber_86 ?_
    refine gt_1_5 (pc := 87) C ⟨by (first | assumption | omega | (simp [bl, up] <;> omega)), by (first | assumption | omega | (simp [bl, up] <;> omega))⟩ u_2_13 dX1_playerNumber_87 ?_
    refine v_iload_n (pc := 90) C 1 rfl rfl dX1_playerNumber_90 ?_
    refine al_4 (pc := 91) C ⟨by (first | assumption | omega | (simp [bl, up] <;> omega)), by (first | assumption | omega | (simp [bl, up] <;> omega))⟩ ⟨by (first | assumption | omega | (simp [bl, up] <;> omega)), by (first | assumption | omega | (simp [bl, up] <;> omega))⟩ dX1_playerNumber_91 ?_
    refine gt_6_4 (pc := 92) C ⟨⟨by (first | assumption | omega | (simp [bl, up] <;> omega)), by (first | assumption | omega | (simp [bl, up] <;> omega))⟩, ⟨by (first | assumption | omega | (simp [bl, up] <;> omega)), by (first | assumption | omega | (simp [bl, up] <;> omega))⟩⟩ u_8_7 dX1_playerNumber_92 (g 6 k p 4) (rfl) ?_
    exact v_iret (pc := 95) C hr hlk (⟨congrArg iI (by unfold plN; grind), rfl⟩) dX1_playerNumber_95
  refine v_tableOut (pc := 1) C 96 ⟨by (first | assumption | omega | (simp [bl, up] <;> omega)), by (first | assumption | omega | (simp [bl, up] <;> omega))⟩ (by (first | assumption | omega | (simp [bl, up] <;> omega))) (by decide) dX1_playerNumber_1 ?_
  refine v_aload_n (pc := 96) C 0 rfl rfl dX1_playerNumber_96 ?_
  refine gt_1_5 (pc := 97) C ⟨by (first | assumption | omega | (simp [bl, up] <;> omega)), by (first | assumption | omega | (simp [bl, up] <;> omega))⟩ u_2_13 dX1_playerNumber_97 ?_
  refine v_iload_n (pc := 100) C 1 rfl rfl dX1_playerNumber_100 ?_
  refine al_4 (pc := 101) C ⟨by (first | assumption | omega | (simp [bl, up] <;> omega)), by (first | assumption | omega | (simp [bl, up] <;> omega))⟩ ⟨by (first | assumption | omega | (simp [bl, up] <;> omega)), by (first | assumption | omega | (simp [bl, up] <;> omega))⟩ dX1_playerNumber_101 ?_
  refine gt_6_5 (pc := 102) C ⟨⟨by (first | assumption | omega | (simp [bl, up] <;> omega)), by (first | assumption | omega | (simp [bl, up] <;> omega))⟩, ⟨by (first | assumption | omega | (simp [bl, up] <;> omega)), by (first | assumption | omega | (simp [bl, up] <;> omega))⟩⟩ u_8_8 dX1_playerNumber_102 (g 6 k p 5) (rfl) ?_
  exact v_iret (pc := 105) C hr hlk (⟨congrArg iI (by unfold plN; grind), rfl⟩) dX1_playerNumber_105
set_option maxHeartbeats 4000000 in
set_option maxRecDepth 100000 in
theorem ct_X1_sumOfPlayers (l : Launch) (L : Lay) (g : St) (k d w : Int) (hk : 0 ≤ k ∧ k < 9) (hw : wf g k d) (hd : 0 ≤ d ∧ d ≤ 1) (hw2 : 0 ≤ w ∧ w ≤ 6) : Met l yX1_sumOfPlayers (.code yX1_sumOfPlayers cX1_sumOfPlayers 4 (some .int) :: wsL_law) { frames := 2, cells := 0, slots := 0, locals := 45 } (va_Pc [.ref (adr L 1 k 0), .int (iI w)] (HS L g)) (va_Qi (fun (r9 : Int32) (u9 : St) => r9 = iI (smN g k w) ∧ u9 = g) (fun u t => HS L u t) (Af L)) 0 0 (Af L) := by
  refine ct_mk (by decide +kernel) (Nat.le_of_ble_eq_true rfl) ?_
  intro pp ee ss mm bel mth cx C hr hlk
  show V pp l ee { frames := 2, cells := 0, slots := 0, locals := 45 } ss mm ([.ref (adr L 1 k 0), .int (iI w)]).toArray bel mth cx 4 L (HH L g) 0 0 _ 0 [(0, .ref (adr L 1 k 0)), (1, .int (iI w))] []
  refine v_iconst (pc := 0) C dX1_sumOfPlayers_0 ?_
  refine v_istore_n (pc := 1) C [(2, .int (iI 0)), (0, .ref (adr L 1 k 0)), (1, .int (iI w))] rfl (by decide) rfl dX1_sumOfPlayers_1 ?_
  refine v_iconst (pc := 2) C dX1_sumOfPlayers_2 ?_
  refine v_istore_n (pc := 3) C [(3, .int (iI 0)), (2, .int (iI 0)), (0, .ref (adr L 1 k 0)), (1, .int (iI w))] rfl (by decide) rfl dX1_sumOfPlayers_3 ?_
  refine v_iload_n (pc := 4) C 0 rfl rfl dX1_sumOfPlayers_4 ?_
  refine v_iconst (pc := 5) C dX1_sumOfPlayers_5 ?_
  refine v_icmp_ge (pc := 6) C 24 ⟨by (first | assumption | omega | (simp [bl, up] <;> omega)), by (first | assumption | omega | (simp [bl, up] <;> omega))⟩ ⟨by (first | assumption | omega | (simp [bl, up] <;> omega)), by (first | assumption | omega | (simp [bl, up] <;> omega))⟩ (by decide) dX1_sumOfPlayers_6 (fun h6 => ?_) (fun h6 => ?_)
  · skip
    exfalso; omega
  · skip
    refine v_iload_n (pc := 9) C 1 rfl rfl dX1_sumOfPlayers_9 ?_
    refine v_aload_n (pc := 10) C 2 rfl rfl dX1_sumOfPlayers_10 ?_
    refine v_iload_n (pc := 11) C 0 rfl rfl dX1_sumOfPlayers_11 ?_
    refine v_iload_n (pc := 12) C 3 rfl rfl dX1_sumOfPlayers_12 ?_
    refine v_calliV (pc := 13) C cw_RX1_156 (rcv_1 ⟨by (first | assumption | omega | (simp [bl, up] <;> omega)), by (first | assumption | omega | (simp [bl, up] <;> omega))⟩) (ct_X1_playerNumber l L g k d 0 w (by first | assumption | omega | (simp [bl, up] <;> omega)) (by first | assumption | omega | (simp [bl, up] <;> omega)) (by first | assumption | omega | (simp [bl, up] <;> omega)) (by first | assumption | omega | (simp [bl, up] <;> omega)) (by first | assumption | omega | (simp [bl, up] <;> omega))) ⟨Nat.le_of_ble_eq_true rfl, Nat.le_of_ble_eq_true rfl⟩ rfl (Nat.le_of_ble_eq_true rfl) ⟨Nat.le_of_ble_eq_true rfl, Nat.le_of_ble_eq_true rfl⟩ rfl dX1_sumOfPlayers_13 (fun r9 u9 hP_1 => ?_)
    obtain ⟨hP_1, hP_1b⟩ := hP_1
    rw [hP_1, hP_1b]
    clear hP_1 hP_1b r9 u9
    refine v_iadd (pc := 16) C dX1_sumOfPlayers_16 ?_
    refine v_istore_n (pc := 17) C [(2, .int (iI (0 + (plN g k 0 w)))), (3, .int (iI 0)), (0, .ref (adr L 1 k 0)), (1, .int (iI w))] rfl (by decide) rfl dX1_sumOfPlayers_17 ?_
    refine v_iinc (pc := 18) C 1 [(3, .int (iI 1)), (2, .int (iI (0 + (plN g k 0 w)))), (0, .ref (adr L 1 k 0)), (1, .int (iI w))] rfl (by decide) rfl dX1_sumOfPlayers_18 ?_
    refine v_goto (pc := 21) C 4 (by decide) dX1_sumOfPlayers_21 ?_
    refine v_iload_n (pc := 4) C 0 rfl rfl dX1_sumOfPlayers_4 ?_
    refine v_iconst (pc := 5) C dX1_sumOfPlayers_5 ?_
    refine v_icmp_ge (pc := 6) C 24 ⟨by (first | assumption | omega | (simp [bl, up] <;> omega)), by (first | assumption | omega | (simp [bl, up] <;> omega))⟩ ⟨by (first | assumption | omega | (simp [bl, up] <;> omega)), by (first | assumption | omega | (simp [bl, up] <;> omega))⟩ (by decide) dX1_sumOfPlayers_6 (fun h6 => ?_) (fun h6 => ?_)
    · skip
      exfalso; omega
    · skip
      refine v_iload_n (pc := 9) C 1 rfl rfl dX1_sumOfPlayers_9 ?_
      refine v_aload_n (pc := 10) C 2 rfl rfl dX1_sumOfPlayers_10 ?_
      refine v_iload_n (pc := 11) C 0 rfl rfl dX1_sumOfPlayers_11 ?_
      refine v_iload_n (pc := 12) C 3 rfl rfl dX1_sumOfPlayers_12 ?_
      refine v_calliV (pc := 13) C cw_RX1_156 (rcv_1 ⟨by (first | assumption | omega | (simp [bl, up] <;> omega)), by (first | assumption | omega | (simp [bl, up] <;> omega))⟩) (ct_X1_playerNumber l L g k d 1 w (by first | assumption | omega | (simp [bl, up] <;> omega)) (by first | assumption | omega | (simp [bl, up] <;> omega)) (by first | assumption | omega | (simp [bl, up] <;> omega)) (by first | assumption | omega | (simp [bl, up] <;> omega)) (by first | assumption | omega | (simp [bl, up] <;> omega))) ⟨Nat.le_of_ble_eq_true rfl, Nat.le_of_ble_eq_true rfl⟩ rfl (Nat.le_of_ble_eq_true rfl) ⟨Nat.le_of_ble_eq_true rfl, Nat.le_of_ble_eq_true rfl⟩ rfl dX1_sumOfPlayers_13 (fun r9 u9 hP_2 => ?_)
      obtain ⟨hP_2, hP_2b⟩ := hP_2
      rw [hP_2, hP_2b]
      clear hP_2 hP_2b r9 u9
      refine v_iadd (pc := 16) C dX1_sumOfPlayers_16 ?_
      refine v_istore_n (pc := 17) C [(2, .int (iI ((0 + (plN g k 0 w)) + (plN g k 1 w)))), (3, .int (iI 1)), (0, .ref (adr L 1 k 0)), (1, .int (iI w))] rfl (by decide) rfl dX1_sumOfPlayers_17 ?_
      refine v_iinc (pc := 18) C 1 [(3, .int (iI 2)), (2, .int (iI ((0 + (plN g k 0 w)) + (plN g k 1 w)))), (0, .ref (adr L 1 k 0)), (1, .int (iI w))] rfl (by decide) rfl dX1_sumOfPlayers_18 ?_
      refine v_goto (pc := 21) C 4 (by decide) dX1_sumOfPlayers_21 ?_
      refine v_iload_n (pc := 4) C 0 rfl rfl dX1_sumOfPlayers_4 ?_
      refine v_iconst (pc := 5) C dX1_sumOfPlayers_5 ?_
      refine v_icmp_ge (pc := 6) C 24 ⟨by (first | assumption | omega | (simp [bl, up] <;> omega)), by (first | assumption | omega | (simp [bl, up] <;> omega))⟩ ⟨by (first | assumption | omega | (simp [bl, up] <;> omega)), by (first | assumption | omega | (simp [bl, up] <;> omega))⟩ (by decide) dX1_sumOfPlayers_6 (fun h6 => ?_) (fun h6 => ?_)
      · skip
        exfalso; omega
      · skip
        refine v_iload_n (pc := 9) C 1 rfl rfl dX1_sumOfPlayers_9 ?_
        refine v_aload_n (pc := 10) C 2 rfl rfl dX1_sumOfPlayers_10 ?_
        refine v_iload_n (pc := 11) C 0 rfl rfl dX1_sumOfPlayers_11 ?_
        refine v_iload_n (pc := 12) C 3 rfl rfl dX1_sumOfPlayers_12 ?_
        refine v_calliV (pc := 13) C cw_RX1_156 (rcv_1 ⟨by (first | assumption | omega | (simp [bl, up] <;> omega)), by (first | assumption | omega | (simp [bl, up] <;> omega))⟩) (ct_X1_playerNumber l L g k d 2 w (by first | assumption | omega | (simp [bl, up] <;> omega)) (by first | assumption | omega | (simp [bl, up] <;> omega)) (by first | assumption | omega | (simp [bl, up] <;> omega)) (by first | assumption | omega | (simp [bl, up] <;> omega)) (by first | assumption | omega | (simp [bl, up] <;> omega))) ⟨Nat.le_of_ble_eq_true rfl, Nat.le_of_ble_eq_true rfl⟩ rfl (Nat.le_of_ble_eq_true rfl) ⟨Nat.le_of_ble_eq_true rfl, Nat.le_of_ble_eq_true rfl⟩ rfl dX1_sumOfPlayers_13 (fun r9 u9 hP_3 => ?_)
        obtain ⟨hP_3, hP_3b⟩ := hP_3
        rw [hP_3, hP_3b]
        clear hP_3 hP_3b r9 u9
        refine v_iadd (pc := 16) C dX1_sumOfPlayers_16 ?_
        refine v_istore_n (pc := 17) C [(2, .int (iI (((0 + (plN g k 0 w)) + (plN g k 1 w)) + (plN g k 2 w)))), (3, .int (iI 2)), (0, .ref (adr L 1 k 0)), (1, .int (iI w))] rfl (by decide) rfl dX1_sumOfPlayers_17 ?_
        refine v_iinc (pc := 18) C 1 [(3, .int (iI 3)), (2, .int (iI (((0 + (plN g k 0 w)) + (plN g k 1 w)) + (plN g k 2 w)))), (0, .ref (adr L 1 k 0)), (1, .int (iI w))] rfl (by decide) rfl dX1_sumOfPlayers_18 ?_
        refine v_goto (pc := 21) C 4 (by decide) dX1_sumOfPlayers_21 ?_
        refine v_iload_n (pc := 4) C 0 rfl rfl dX1_sumOfPlayers_4 ?_
        refine v_iconst (pc := 5) C dX1_sumOfPlayers_5 ?_
        refine v_icmp_ge (pc := 6) C 24 ⟨by (first | assumption | omega | (simp [bl, up] <;> omega)), by (first | assumption | omega | (simp [bl, up] <;> omega))⟩ ⟨by (first | assumption | omega | (simp [bl, up] <;> omega)), by (first | assumption | omega | (simp [bl, up] <;> omega))⟩ (by decide) dX1_sumOfPlayers_6 (fun h6 => ?_) (fun h6 => ?_)
        · skip
          exfalso; omega
        · skip
          refine v_iload_n (pc := 9) C 1 rfl rfl dX1_sumOfPlayers_9 ?_
          refine v_aload_n (pc := 10) C 2 rfl rfl dX1_sumOfPlayers_10 ?_
          refine v_iload_n (pc := 11) C 0 rfl rfl dX1_sumOfPlayers_11 ?_
          refine v_iload_n (pc := 12) C 3 rfl rfl dX1_sumOfPlayers_12 ?_
          refine v_calliV (pc := 13) C cw_RX1_156 (rcv_1 ⟨by (first | assumption | omega | (simp [bl, up] <;> omega)), by (first | assumption | omega | (simp [bl, up] <;> omega))⟩) (ct_X1_playerNumber l L g k d 3 w (by first | assumption | omega | (simp [bl, up] <;> omega)) (by first | assumption | omega | (simp [bl, up] <;> omega)) (by first | assumption | omega | (simp [bl, up] <;> omega)) (by first | assumption | omega | (simp [bl, up] <;> omega)) (by first | assumption | omega | (simp [bl, up] <;> omega))) ⟨Nat.le_of_ble_eq_true rfl, Nat.le_of_ble_eq_true rfl⟩ rfl (Nat.le_of_ble_eq_true rfl) ⟨Nat.le_of_ble_eq_true rfl, Nat.le_of_ble_eq_true rfl⟩ rfl dX1_sumOfPlayers_13 (fun r9 u9 hP_4 => ?_)
          obtain ⟨hP_4, hP_4b⟩ := hP_4
          rw [hP_4, hP_4b]
          clear hP_4 hP_4b r9 u9
          refine v_iadd (pc := 16) C dX1_sumOfPlayers_16 ?_
          refine v_istore_n (pc := 17) C [(2, .int (iI ((((0 + (plN g k 0 w)) + (plN g k 1 w)) + (plN g k 2 w)) + (plN g k 3 w)))), (3, .int (iI 3)), (0, .ref (adr L 1 k 0)), (1, .int (iI w))] rfl (by decide) rfl dX1_sumOfPlayers_17 ?_
          refine v_iinc (pc := 18) C 1 [(3, .int (iI 4)), (2, .int (iI ((((0 + (plN g k 0 w)) + (plN g k 1 w)) + (plN g k 2 w)) + (plN g k 3 w)))), (0, .ref (adr L 1 k 0)), (1, .int (iI w))] rfl (by decide) rfl dX1_sumOfPlayers_18 ?_
          refine v_goto (pc := 21) C 4 (by decide) dX1_sumOfPlayers_21 ?_
          refine v_iload_n (pc := 4) C 0 rfl rfl dX1_sumOfPlayers_4 ?_
          refine v_iconst (pc := 5) C dX1_sumOfPlayers_5 ?_
          refine v_icmp_ge (pc := 6) C 24 ⟨by (first | assumption | omega | (simp [bl, up] <;> omega)), by (first | assumption | omega | (simp [bl, up] <;> omega))⟩ ⟨by (first | assumption | omega | (simp [bl, up] <;> omega)), by (first | assumption | omega | (simp [bl, up] <;> omega))⟩ (by decide) dX1_sumOfPlayers_6 (fun h6 => ?_) (fun h6 => ?_)
          · skip
            refine v_iload_n (pc := 24) C 1 rfl rfl dX1_sumOfPlayers_24 ?_
            exact v_iret (pc := 25) C hr hlk (⟨congrArg iI (by simp only [smN]; omega), rfl⟩) dX1_sumOfPlayers_25
          · skip
            exfalso; omega
set_option maxHeartbeats 4000000 in
set_option maxRecDepth 100000 in
theorem ct_X1_echoNumber (l : Launch) (L : Lay) (g : St) (k d r w : Int) (hk : 0 ≤ k ∧ k < 9) (hw : wf g k d) (hd : 0 ≤ d ∧ d ≤ 1) (hr0 : rg r) (hw2 : 0 ≤ w ∧ w ≤ 5) : Met l yX1_echoNumber (.code yX1_echoNumber cX1_echoNumber 4 (some .int) :: wsL_law) { frames := 2, cells := 0, slots := 0, locals := 45 } (va_Pc [.ref (adr L 1 k 0), .int (iI r), .int (iI w)] (HS L g)) (va_Qi (fun (r9 : Int32) (u9 : St) => r9 = iI (ecN g k r w) ∧ u9 = g) (fun u t => HS L u t) (Af L)) 0 0 (Af L) := by
  refine ct_mk (by decide +kernel) (Nat.le_of_ble_eq_true rfl) ?_
  intro pp ee ss mm bel mth cx C hr hlk
  show V pp l ee { frames := 2, cells := 0, slots := 0, locals := 45 } ss mm ([.ref (adr L 1 k 0), .int (iI r), .int (iI w)]).toArray bel mth cx 4 L (HH L g) 0 0 _ 0 [(0, .ref (adr L 1 k 0)), (1, .int (iI r)), (2, .int (iI w))] []
  obtain ⟨hS0, hS1, hS2, hB0, hB1, hB2, hCl, hN, hPl, hPm, hPj, hEc, hSo⟩ := id hw
  unfold rg at hr0
  refine v_iload_n (pc := 0) C 1 rfl rfl dX1_echoNumber_0 ?_
  refine v_if_lt (pc := 1) C 12 ⟨by (first | assumption | omega | (simp [bl, up] <;> omega)), by (first | assumption | omega | (simp [bl, up] <;> omega))⟩ (by decide) dX1_echoNumber_1 (fun h1 => ?_) (fun h1 => ?_)
  · skip
    refine v_iconst (pc := 12) C dX1_echoNumber_12 ?_
    exact v_iret (pc := 13) C hr hlk (⟨congrArg iI (by unfold ecN eF; grind), rfl⟩) dX1_echoNumber_13
  · skip
    refine v_iload_n (pc := 4) C 1 rfl rfl dX1_echoNumber_4 ?_
    refine v_aload_n (pc := 5) C 0 rfl rfl dX1_echoNumber_5 ?_
    refine gt_1_2 (pc := 6) C ⟨by (first | assumption | omega | (simp [bl, up] <;> omega)), by (first | assumption | omega | (simp [bl, up] <;> omega))⟩ u_6_2 dX1_echoNumber_6 (g 1 k 0 2) (rfl) ?_
    refine v_icmp_lt (pc := 9) C 14 ⟨by (first | assumption | omega | (simp [bl, up] <;> omega)), by (first | assumption | omega | (simp [bl, up] <;> omega))⟩ ⟨by (first | assumption | omega | (simp [bl, up] <;> omega)), by (first | assumption | omega | (simp [bl, up] <;> omega))⟩ (by decide) dX1_echoNumber_9 (fun h9 => ?_) (fun h9 => ?_)
    · skip
      refine v_aload_n (pc := 14) C 0 rfl rfl dX1_echoNumber_14 ?_
      refine gt_1_6 (pc := 15) C ⟨by (first | assumption | omega | (simp [bl, up] <;> omega)), by (first | assumption | omega | (simp [bl, up] <;> omega))⟩ u_2_15 dX1_echoNumber_15 ?_
      refine v_iload_n (pc := 18) C 1 rfl rfl dX1_echoNumber_18 ?_
      refine al_5 (pc := 19) C ⟨by (first | assumption | omega | (simp [bl, up] <;> omega)), by (first | assumption | omega | (simp [bl, up] <;> omega))⟩ ⟨by (first | assumption | omega | (simp [bl, up] <;> omega)), by (first | assumption | omega | (simp [bl, up] <;> omega))⟩ dX1_echoNumber_19 (g 5 k 0 r) (rfl) ?_
      have hp19 := hPm r (by first | assumption | omega | (simp [bl, up] <;> omega)) (by first | assumption | omega | (simp [bl, up] <;> omega))
      have he19 := hEc r (by first | assumption | omega | (simp [bl, up] <;> omega)) (by first | assumption | omega | (simp [bl, up] <;> omega))
      unfold okE at he19
      refine v_astore_n (pc := 20) C [(3, .ref (adr L 7 k (g 5 k 0 r))), (0, .ref (adr L 1 k 0)), (1, .int (iI r)), (2, .int (iI w))] rfl (by decide) rfl dX1_echoNumber_20 ?_
      refine v_iload_n (pc := 21) C 3 rfl rfl dX1_echoNumber_21 ?_
      by_cases h22_0 : w = 0
      · skip
        refine v_tableIn (pc := 22) (o := 34) C 56 ⟨by (first | assumption | omega | (simp [bl, up] <;> omega)), by (first | assumption | omega | (simp [bl, up] <;> omega))⟩ (by (first | assumption | omega | (simp [bl, up] <;> omega))) (by (first | assumption | omega | (simp [bl, up] <;> omega))) (by rw [h22_0]; rfl) (by decide) dX1_echoNumber_22 ?_
        refine v_aload_n (pc := 56) C 0 rfl rfl dX1_echoNumber_56 ?_
        refine gt_7_0 (pc := 57) C ⟨⟨by (first | assumption | omega | (simp [bl, up] <;> omega)), by (first | assumption | omega | (simp [bl, up] <;> omega))⟩, ⟨by (first | assumption | omega | (simp [bl, up] <;> omega)), by (first | assumption | omega | (simp [bl, up] <;> omega))⟩⟩ u_8_13 dX1_echoNumber_57 (g 7 k (g 5 k 0 r) 0) (rfl) ?_
        exact v_iret (pc := 60) C hr hlk (⟨congrArg iI (by unfold ecN eF; grind), rfl⟩) dX1_echoNumber_60
      by_cases h22_1 : w = 1
      · skip
        refine v_tableIn (pc := 22) (o := 39) C 61 ⟨by (first | assumption | omega | (simp [bl, up] <;> omega)), by (first | assumption | omega | (simp [bl, up] <;> omega))⟩ (by (first | assumption | omega | (simp [bl, up] <;> omega))) (by (first | assumption | omega | (simp [bl, up] <;> omega))) (by rw [h22_1]; rfl) (by decide) dX1_echoNumber_22 ?_
        refine v_aload_n (pc := 61) C 0 rfl rfl dX1_echoNumber_61 ?_
        refine gt_7_1 (pc := 62) C ⟨⟨by (first | assumption | omega | (simp [bl, up] <;> omega)), by (first | assumption | omega | (simp [bl, up] <;> omega))⟩, ⟨by (first | assumption | omega | (simp [bl, up] <;> omega)), by (first | assumption | omega | (simp [bl, up] <;> omega))⟩⟩ u_9_9 dX1_echoNumber_62 (g 7 k (g 5 k 0 r) 1) (rfl) ?_
        exact v_iret (pc := 65) C hr hlk (⟨congrArg iI (by unfold ecN eF; grind), rfl⟩) dX1_echoNumber_65
      by_cases h22_2 : w = 2
      · skip
        refine v_tableIn (pc := 22) (o := 44) C 66 ⟨by (first | assumption | omega | (simp [bl, up] <;> omega)), by (first | assumption | omega | (simp [bl, up] <;> omega))⟩ (by (first | assumption | omega | (simp [bl, up] <;> omega))) (by (first | assumption | omega | (simp [bl, up] <;> omega))) (by rw [h22_2]; rfl) (by decide) dX1_echoNumber_22 ?_
        refine v_aload_n (pc := 66) C 0 rfl rfl dX1_echoNumber_66 ?_
        refine gt_7_2 (pc := 67) C ⟨⟨by (first | assumption | omega | (simp [bl, up] <;> omega)), by (first | assumption | omega | (simp [bl, up] <;> omega))⟩, ⟨by (first | assumption | omega | (simp [bl, up] <;> omega)), by (first | assumption | omega | (simp [bl, up] <;> omega))⟩⟩ u_9_10 dX1_echoNumber_67 (g 7 k (g 5 k 0 r) 2) (rfl) ?_
        exact v_iret (pc := 70) C hr hlk (⟨congrArg iI (by unfold ecN eF; grind), rfl⟩) dX1_echoNumber_70
      by_cases h22_3 : w = 3
      · skip
        refine v_tableIn (pc := 22) (o := 49) C 71 ⟨by (first | assumption | omega | (simp [bl, up] <;> omega)), by (first | assumption | omega | (simp [bl, up] <;> omega))⟩ (by (first | assumption | omega | (simp [bl, up] <;> omega))) (by (first | assumption | omega | (simp [bl, up] <;> omega))) (by rw [h22_3]; rfl) (by decide) dX1_echoNumber_22 ?_
        refine v_aload_n (pc := 71) C 0 rfl rfl dX1_echoNumber_71 ?_
        refine gt_7_3 (pc := 72) C ⟨⟨by (first | assumption | omega | (simp [bl, up] <;> omega)), by (first | assumption | omega | (simp [bl, up] <;> omega))⟩, ⟨by (first | assumption | omega | (simp [bl, up] <;> omega)), by (first | assumption | omega | (simp [bl, up] <;> omega))⟩⟩ u_9_11 dX1_echoNumber_72 (g 7 k (g 5 k 0 r) 3) (rfl) ?_
        refine v_aload_n (pc := 75) C 1 rfl rfl dX1_echoNumber_75 ?_
        refine gt_1_0 (pc := 76) C ⟨by (first | assumption | omega | (simp [bl, up] <;> omega)), by (first | assumption | omega | (simp [bl, up] <;> omega))⟩ u_6_3 dX1_echoNumber_76 (g 1 k 0 0) (rfl) ?_
        refine v_isub (pc := 79) C dX1_echoNumber_79 ?_
        exact v_iret (pc := 80) C hr hlk (⟨congrArg iI (by unfold ecN eF; grind), rfl⟩) dX1_echoNumber_80
      by_cases h22_4 : w = 4
      · skip
        refine v_tableIn (pc := 22) (o := 59) C 81 ⟨by (first | assumption | omega | (simp [bl, up] <;> omega)), by (first | assumption | omega | (simp [bl, up] <;> omega))⟩ (by (first | assumption | omega | (simp [bl, up] <;> omega))) (by (first | assumption | omega | (simp [bl, up] <;> omega))) (by rw [h22_4]; rfl) (by decide) dX1_echoNumber_22 ?_
        refine v_aload_n (pc := 81) C 0 rfl rfl dX1_echoNumber_81 ?_
        refine gt_7_4 (pc := 82) C ⟨⟨by (first | assumption | omega | (simp [bl, up] <;> omega)), by (first | assumption | omega | (simp [bl, up] <;> omega))⟩, ⟨by (first | assumption | omega | (simp [bl, up] <;> omega)), by (first | assumption | omega | (simp [bl, up] <;> omega))⟩⟩ u_9_12 dX1_echoNumber_82 (g 7 k (g 5 k 0 r) 4) (rfl) ?_
        exact v_iret (pc := 85) C hr hlk (⟨congrArg iI (by unfold ecN eF; grind), rfl⟩) dX1_echoNumber_85
      refine v_tableOut (pc := 22) C 86 ⟨by (first | assumption | omega | (simp [bl, up] <;> omega)), by (first | assumption | omega | (simp [bl, up] <;> omega))⟩ (by (first | assumption | omega | (simp [bl, up] <;> omega))) (by decide) dX1_echoNumber_22 ?_
      refine v_aload_n (pc := 86) C 1 rfl rfl dX1_echoNumber_86 ?_
      refine v_iload_n (pc := 87) C 2 rfl rfl dX1_echoNumber_87 ?_
      refine v_calliV (pc := 88) C cw_RX1_118 (rcv_1 ⟨by (first | assumption | omega | (simp [bl, up] <;> omega)), by (first | assumption | omega | (simp [bl, up] <;> omega))⟩) (ct_X1_echoClashes l L g k d r (by first | assumption | omega | (simp [bl, up] <;> omega)) (by first | assumption | omega | (simp [bl, up] <;> omega)) (by first | assumption | omega | (simp [bl, up] <;> omega)) (by first | assumption | omega | (simp [bl, up] <;> omega))) ⟨Nat.le_of_ble_eq_true rfl, Nat.le_of_ble_eq_true rfl⟩ rfl (Nat.le_of_ble_eq_true rfl) ⟨Nat.le_of_ble_eq_true rfl, Nat.le_of_ble_eq_true rfl⟩ rfl dX1_echoNumber_88 (fun r9 u9 hP_1 => ?_)
      obtain ⟨hP_1, hP_1b⟩ := hP_1
      rw [hP_1, hP_1b]
      clear hP_1 hP_1b r9 u9
      refine v_if_eq (pc := 91) C 98 ⟨by split <;> decide, by split <;> decide⟩ (by decide) dX1_echoNumber_91 (fun h91 => ?_) (fun h91 => ?_)
      · skip
        refine v_iconst (pc := 98) C dX1_echoNumber_98 ?_
        exact v_iret (pc := 99) C hr hlk (⟨congrArg iI (by unfold ecN eF; grind), rfl⟩) dX1_echoNumber_99
      · skip
        refine v_iconst (pc := 94) C dX1_echoNumber_94 ?_
        refine v_goto (pc := 95) C 99 (by decide) dX1_echoNumber_95 ?_
        exact v_iret (pc := 99) C hr hlk (⟨congrArg iI (by unfold ecN eF; grind), rfl⟩) dX1_echoNumber_99
    · skip
      refine v_iconst (pc := 12) C dX1_echoNumber_12 ?_
      exact v_iret (pc := 13) C hr hlk (⟨congrArg iI (by unfold ecN eF; grind), rfl⟩) dX1_echoNumber_13
set_option maxHeartbeats 4000000 in
set_option maxRecDepth 100000 in
theorem ct_X1_number (l : Launch) (L : Lay) (g : St) (k d w : Int) (hk : 0 ≤ k ∧ k < 9) (hw : wf g k d) (hd : 0 ≤ d ∧ d ≤ 1) (hw2 : 0 ≤ w ∧ w ≤ 10) : Met l yX1_number (.code yX1_number cX1_number 2 (some .int) :: wsL_law) { frames := 3, cells := 0, slots := 0, locals := 68 } (va_Pc [.ref (adr L 1 k 0), .int (iI w)] (HS L g)) (va_Qi (fun (r9 : Int32) (u9 : St) => r9 = iI (nbN g k w) ∧ u9 = g) (fun u t => HS L u t) (Af L)) 0 0 (Af L) := by
  refine ct_mk (by decide +kernel) (Nat.le_of_ble_eq_true rfl) ?_
  intro pp ee ss mm bel mth cx C hr hlk
  show V pp l ee { frames := 3, cells := 0, slots := 0, locals := 68 } ss mm ([.ref (adr L 1 k 0), .int (iI w)]).toArray bel mth cx 2 L (HH L g) 0 0 _ 0 [(0, .ref (adr L 1 k 0)), (1, .int (iI w))] []
  obtain ⟨hS0, hS1, hS2, hB0, hB1, hB2, hCl, hN, hPl, hPm, hPj, hEc, hSo⟩ := id hw
  refine v_iload_n (pc := 0) C 1 rfl rfl dX1_number_0 ?_
  by_cases h1_0 : w = 0
  · skip
    refine v_tableIn (pc := 1) (o := 55) C 56 ⟨by (first | assumption | omega | (simp [bl, up] <;> omega)), by (first | assumption | omega | (simp [bl, up] <;> omega))⟩ (by (first | assumption | omega | (simp [bl, up] <;> omega))) (by (first | assumption | omega | (simp [bl, up] <;> omega))) (by rw [h1_0]; rfl) (by decide) dX1_number_1 ?_
    refine v_aload_n (pc := 56) C 0 rfl rfl dX1_number_56 ?_
    refine gt_1_0 (pc := 57) C ⟨by (first | assumption | omega | (simp [bl, up] <;> omega)), by (first | assumption | omega | (simp [bl, up] <;> omega))⟩ u_6_3 dX1_number_57 (g 1 k 0 0) (rfl) ?_
    exact v_iret (pc := 60) C hr hlk (⟨congrArg iI (by unfold nbN; grind), rfl⟩) dX1_number_60
  by_cases h1_1 : w = 1
  · skip
    refine v_tableIn (pc := 1) (o := 60) C 61 ⟨by (first | assumption | omega | (simp [bl, up] <;> omega)), by (first | assumption | omega | (simp [bl, up] <;> omega))⟩ (by (first | assumption | omega | (simp [bl, up] <;> omega))) (by (first | assumption | omega | (simp [bl, up] <;> omega))) (by rw [h1_1]; rfl) (by decide) dX1_number_1 ?_
    refine v_aload_n (pc := 61) C 0 rfl rfl dX1_number_61 ?_
    refine gt_1_4 (pc := 62) C ⟨by (first | assumption | omega | (simp [bl, up] <;> omega)), by (first | assumption | omega | (simp [bl, up] <;> omega))⟩ u_2_11 dX1_number_62 ?_
    refine gt_3_0 (pc := 65) C ⟨by (first | assumption | omega | (simp [bl, up] <;> omega)), by (first | assumption | omega | (simp [bl, up] <;> omega))⟩ u_7_13 dX1_number_65 (g 3 k 0 0) (rfl) ?_
    exact v_iret (pc := 68) C hr hlk (⟨congrArg iI (by unfold nbN; grind), rfl⟩) dX1_number_68
  by_cases h1_2 : w = 2
  · skip
    refine v_tableIn (pc := 1) (o := 68) C 69 ⟨by (first | assumption | omega | (simp [bl, up] <;> omega)), by (first | assumption | omega | (simp [bl, up] <;> omega))⟩ (by (first | assumption | omega | (simp [bl, up] <;> omega))) (by (first | assumption | omega | (simp [bl, up] <;> omega))) (by rw [h1_2]; rfl) (by decide) dX1_number_1 ?_
    refine v_aload_n (pc := 69) C 0 rfl rfl dX1_number_69 ?_
    refine gt_1_4 (pc := 70) C ⟨by (first | assumption | omega | (simp [bl, up] <;> omega)), by (first | assumption | omega | (simp [bl, up] <;> omega))⟩ u_2_11 dX1_number_70 ?_
    refine gt_3_1 (pc := 73) C ⟨by (first | assumption | omega | (simp [bl, up] <;> omega)), by (first | assumption | omega | (simp [bl, up] <;> omega))⟩ u_7_14 dX1_number_73 (g 3 k 0 1) (rfl) ?_
    exact v_iret (pc := 76) C hr hlk (⟨congrArg iI (by unfold nbN; grind), rfl⟩) dX1_number_76
  by_cases h1_3 : w = 3
  · skip
    refine v_tableIn (pc := 1) (o := 76) C 77 ⟨by (first | assumption | omega | (simp [bl, up] <;> omega)), by (first | assumption | omega | (simp [bl, up] <;> omega))⟩ (by (first | assumption | omega | (simp [bl, up] <;> omega))) (by (first | assumption | omega | (simp [bl, up] <;> omega))) (by rw [h1_3]; rfl) (by decide) dX1_number_1 ?_
    refine v_aload_n (pc := 77) C 0 rfl rfl dX1_number_77 ?_
    refine gt_1_4 (pc := 78) C ⟨by (first | assumption | omega | (simp [bl, up] <;> omega)), by (first | assumption | omega | (simp [bl, up] <;> omega))⟩ u_2_11 dX1_number_78 ?_
    refine v_calliV (pc := 81) C cw_RX1_162 (rcv_3 ⟨by (first | assumption | omega | (simp [bl, up] <;> omega)), by (first | assumption | omega | (simp [bl, up] <;> omega))⟩) (ct_X0_rightNumber l L g k (by first | assumption | omega | (simp [bl, up] <;> omega)) (by first | assumption | omega | (simp [bl, up] <;> omega)) (by first | assumption | omega | (simp [bl, up] <;> omega))) ⟨Nat.le_of_ble_eq_true rfl, Nat.le_of_ble_eq_true rfl⟩ rfl (Nat.le_of_ble_eq_true rfl) ⟨Nat.le_of_ble_eq_true rfl, Nat.le_of_ble_eq_true rfl⟩ rfl dX1_number_81 (fun r9 u9 hP_1 => ?_)
    obtain ⟨hP_1, hP_1b⟩ := hP_1
    rw [hP_1, hP_1b]
    clear hP_1 hP_1b r9 u9
    exact v_iret (pc := 84) C hr hlk (⟨congrArg iI (by unfold nbN; grind), rfl⟩) dX1_number_84
  by_cases h1_4 : w = 4
  · skip
    refine v_tableIn (pc := 1) (o := 84) C 85 ⟨by (first | assumption | omega | (simp [bl, up] <;> omega)), by (first | assumption | omega | (simp [bl, up] <;> omega))⟩ (by (first | assumption | omega | (simp [bl, up] <;> omega))) (by (first | assumption | omega | (simp [bl, up] <;> omega))) (by rw [h1_4]; rfl) (by decide) dX1_number_1 ?_
    refine v_aload_n (pc := 85) C 0 rfl rfl dX1_number_85 ?_
    refine gt_1_2 (pc := 86) C ⟨by (first | assumption | omega | (simp [bl, up] <;> omega)), by (first | assumption | omega | (simp [bl, up] <;> omega))⟩ u_6_2 dX1_number_86 (g 1 k 0 2) (rfl) ?_
    exact v_iret (pc := 89) C hr hlk (⟨congrArg iI (by unfold nbN; grind), rfl⟩) dX1_number_89
  by_cases h1_5 : w = 5
  · skip
    refine v_tableIn (pc := 1) (o := 89) C 90 ⟨by (first | assumption | omega | (simp [bl, up] <;> omega)), by (first | assumption | omega | (simp [bl, up] <;> omega))⟩ (by (first | assumption | omega | (simp [bl, up] <;> omega))) (by (first | assumption | omega | (simp [bl, up] <;> omega))) (by rw [h1_5]; rfl) (by decide) dX1_number_1 ?_
    refine v_iconst (pc := 90) C dX1_number_90 ?_
    refine v_aload_n (pc := 91) C 0 rfl rfl dX1_number_91 ?_
    refine v_iconst (pc := 92) C dX1_number_92 ?_
    refine v_calliV (pc := 93) C cw_RX1_153 (rcv_1 ⟨by (first | assumption | omega | (simp [bl, up] <;> omega)), by (first | assumption | omega | (simp [bl, up] <;> omega))⟩) (ct_X1_sumOfPlayers l L g k d 2 (by first | assumption | omega | (simp [bl, up] <;> omega)) (by first | assumption | omega | (simp [bl, up] <;> omega)) (by first | assumption | omega | (simp [bl, up] <;> omega)) (by first | assumption | omega | (simp [bl, up] <;> omega))) ⟨Nat.le_of_ble_eq_true rfl, Nat.le_of_ble_eq_true rfl⟩ rfl (Nat.le_of_ble_eq_true rfl) ⟨Nat.le_of_ble_eq_true rfl, Nat.le_of_ble_eq_true rfl⟩ rfl dX1_number_93 (fun r9 u9 hP_2 => ?_)
    obtain ⟨hP_2, hP_2b⟩ := hP_2
    rw [hP_2, hP_2b]
    clear hP_2 hP_2b r9 u9
    refine v_imul (pc := 96) C dX1_number_96 ?_
    exact v_iret (pc := 97) C hr hlk (⟨congrArg iI (by unfold nbN; grind), rfl⟩) dX1_number_97
  by_cases h1_6 : w = 6
  · skip
    refine v_tableIn (pc := 1) (o := 97) C 98 ⟨by (first | assumption | omega | (simp [bl, up] <;> omega)), by (first | assumption | omega | (simp [bl, up] <;> omega))⟩ (by (first | assumption | omega | (simp [bl, up] <;> omega))) (by (first | assumption | omega | (simp [bl, up] <;> omega))) (by rw [h1_6]; rfl) (by decide) dX1_number_1 ?_
    refine v_aload_n (pc := 98) C 0 rfl rfl dX1_number_98 ?_
    refine v_iconst (pc := 99) C dX1_number_99 ?_
    refine v_calliV (pc := 100) C cw_RX1_153 (rcv_1 ⟨by (first | assumption | omega | (simp [bl, up] <;> omega)), by (first | assumption | omega | (simp [bl, up] <;> omega))⟩) (ct_X1_sumOfPlayers l L g k d 4 (by first | assumption | omega | (simp [bl, up] <;> omega)) (by first | assumption | omega | (simp [bl, up] <;> omega)) (by first | assumption | omega | (simp [bl, up] <;> omega)) (by first | assumption | omega | (simp [bl, up] <;> omega))) ⟨Nat.le_of_ble_eq_true rfl, Nat.le_of_ble_eq_true rfl⟩ rfl (Nat.le_of_ble_eq_true rfl) ⟨Nat.le_of_ble_eq_true rfl, Nat.le_of_ble_eq_true rfl⟩ rfl dX1_number_100 (fun r9 u9 hP_3 => ?_)
    obtain ⟨hP_3, hP_3b⟩ := hP_3
    rw [hP_3, hP_3b]
    clear hP_3 hP_3b r9 u9
    exact v_iret (pc := 103) C hr hlk (⟨congrArg iI (by unfold nbN; grind), rfl⟩) dX1_number_103
  by_cases h1_7 : w = 7
  · skip
    refine v_tableIn (pc := 1) (o := 103) C 104 ⟨by (first | assumption | omega | (simp [bl, up] <;> omega)), by (first | assumption | omega | (simp [bl, up] <;> omega))⟩ (by (first | assumption | omega | (simp [bl, up] <;> omega))) (by (first | assumption | omega | (simp [bl, up] <;> omega))) (by rw [h1_7]; rfl) (by decide) dX1_number_1 ?_
    refine v_aload_n (pc := 104) C 0 rfl rfl dX1_number_104 ?_
    refine v_iconst (pc := 105) C dX1_number_105 ?_
    refine v_calliV (pc := 106) C cw_RX1_153 (rcv_1 ⟨by (first | assumption | omega | (simp [bl, up] <;> omega)), by (first | assumption | omega | (simp [bl, up] <;> omega))⟩) (ct_X1_sumOfPlayers l L g k d 5 (by first | assumption | omega | (simp [bl, up] <;> omega)) (by first | assumption | omega | (simp [bl, up] <;> omega)) (by first | assumption | omega | (simp [bl, up] <;> omega)) (by first | assumption | omega | (simp [bl, up] <;> omega))) ⟨Nat.le_of_ble_eq_true rfl, Nat.le_of_ble_eq_true rfl⟩ rfl (Nat.le_of_ble_eq_true rfl) ⟨Nat.le_of_ble_eq_true rfl, Nat.le_of_ble_eq_true rfl⟩ rfl dX1_number_106 (fun r9 u9 hP_4 => ?_)
    obtain ⟨hP_4, hP_4b⟩ := hP_4
    rw [hP_4, hP_4b]
    clear hP_4 hP_4b r9 u9
    exact v_iret (pc := 109) C hr hlk (⟨congrArg iI (by unfold nbN; grind), rfl⟩) dX1_number_109
  by_cases h1_8 : w = 8
  · skip
    refine v_tableIn (pc := 1) (o := 109) C 110 ⟨by (first | assumption | omega | (simp [bl, up] <;> omega)), by (first | assumption | omega | (simp [bl, up] <;> omega))⟩ (by (first | assumption | omega | (simp [bl, up] <;> omega))) (by (first | assumption | omega | (simp [bl, up] <;> omega))) (by rw [h1_8]; rfl) (by decide) dX1_number_1 ?_
    refine v_aload_n (pc := 110) C 0 rfl rfl dX1_number_110 ?_
    refine v_bipush (pc := 111) C rfl dX1_number_111 ?_
    refine v_calliV (pc := 113) C cw_RX1_153 (rcv_1 ⟨by (first | assumption | omega | (simp [bl, up] <;> omega)), by (first | assumption | omega | (simp [bl, up] <;> omega))⟩) (ct_X1_sumOfPlayers l L g k d 6 (by first | assumption | omega | (simp [bl, up] <;> omega)) (by first | assumption | omega | (simp [bl, up] <;> omega)) (by first | assumption | omega | (simp [bl, up] <;> omega)) (by first | assumption | omega | (simp [bl, up] <;> omega))) ⟨Nat.le_of_ble_eq_true rfl, Nat.le_of_ble_eq_true rfl⟩ rfl (Nat.le_of_ble_eq_true rfl) ⟨Nat.le_of_ble_eq_true rfl, Nat.le_of_ble_eq_true rfl⟩ rfl dX1_number_113 (fun r9 u9 hP_5 => ?_)
    obtain ⟨hP_5, hP_5b⟩ := hP_5
    rw [hP_5, hP_5b]
    clear hP_5 hP_5b r9 u9
    exact v_iret (pc := 116) C hr hlk (⟨congrArg iI (by unfold nbN; grind), rfl⟩) dX1_number_116
  by_cases h1_9 : w = 9
  · skip
    refine v_tableIn (pc := 1) (o := 116) C 117 ⟨by (first | assumption | omega | (simp [bl, up] <;> omega)), by (first | assumption | omega | (simp [bl, up] <;> omega))⟩ (by (first | assumption | omega | (simp [bl, up] <;> omega))) (by (first | assumption | omega | (simp [bl, up] <;> omega))) (by rw [h1_9]; rfl) (by decide) dX1_number_1 ?_
    refine v_aload_n (pc := 117) C 0 rfl rfl dX1_number_117 ?_
    refine v_iconst (pc := 118) C dX1_number_118 ?_
    refine v_calliV (pc := 119) C cw_RX1_153 (rcv_1 ⟨by (first | assumption | omega | (simp [bl, up] <;> omega)), by (first | assumption | omega | (simp [bl, up] <;> omega))⟩) (ct_X1_sumOfPlayers l L g k d 1 (by first | assumption | omega | (simp [bl, up] <;> omega)) (by first | assumption | omega | (simp [bl, up] <;> omega)) (by first | assumption | omega | (simp [bl, up] <;> omega)) (by first | assumption | omega | (simp [bl, up] <;> omega))) ⟨Nat.le_of_ble_eq_true rfl, Nat.le_of_ble_eq_true rfl⟩ rfl (Nat.le_of_ble_eq_true rfl) ⟨Nat.le_of_ble_eq_true rfl, Nat.le_of_ble_eq_true rfl⟩ rfl dX1_number_119 (fun r9 u9 hP_6 => ?_)
    obtain ⟨hP_6, hP_6b⟩ := hP_6
    rw [hP_6, hP_6b]
    clear hP_6 hP_6b r9 u9
    exact v_iret (pc := 122) C hr hlk (⟨congrArg iI (by unfold nbN; grind), rfl⟩) dX1_number_122
  refine v_tableOut (pc := 1) C 123 ⟨by (first | assumption | omega | (simp [bl, up] <;> omega)), by (first | assumption | omega | (simp [bl, up] <;> omega))⟩ (by (first | assumption | omega | (simp [bl, up] <;> omega))) (by decide) dX1_number_1 ?_
  refine v_aload_n (pc := 123) C 0 rfl rfl dX1_number_123 ?_
  refine gt_1_1 (pc := 124) C ⟨by (first | assumption | omega | (simp [bl, up] <;> omega)), by (first | assumption | omega | (simp [bl, up] <;> omega))⟩ u_7_15 dX1_number_124 (g 1 k 0 1) (rfl) ?_
  exact v_iret (pc := 127) C hr hlk (⟨congrArg iI (by unfold nbN; grind), rfl⟩) dX1_number_127
