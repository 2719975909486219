
theorem cw_RX6_160 : CW RX6 160 RX1 yX1_playerNumber cX1_playerNumber 3 (some .int) 2 := ⟨u_8_21, u_8_1, u_8_2, u_1_12, u_8_3, by decide +kernel⟩
theorem cw_RX6_165 : CW RX6 165 RX1 yX1_echoNumber cX1_echoNumber 4 (some .int) 2 := ⟨u_9_5, u_9_6, u_9_7, u_1_12, u_9_8, by decide +kernel⟩
theorem cw_RX6_168 : CW RX6 168 RX6 yX6_countNumber cX6_countNumber 2 (some .int) 1 := ⟨u_7_4, u_7_5, u_7_6, u_1_2, u_7_7, by decide +kernel⟩
theorem cw_RX6_171 : CW RX6 171 RX6 yX6_ballNumber cX6_ballNumber 4 (some .int) 2 := ⟨u_19_6, u_19_7, u_19_8, u_1_2, u_19_9, by decide +kernel⟩
theorem cw_RX6_181 : CW RX6 181 RX1 yX1_echoTime cX1_echoTime 6 (some .int) 2 := ⟨u_10_2, u_5_1, u_5_2, u_1_12, u_5_3, by decide +kernel⟩
theorem cw_RX6_184 : CW RX6 184 RX1 yX1_newEchoClashes cX1_newEchoClashes 5 (some .boolean) 2 := ⟨u_18_19, u_18_20, u_18_21, u_1_12, u_18_22, by decide +kernel⟩
theorem cw_RX6_188 : CW RX6 188 RX1 yX1_turnsToWait cX1_turnsToWait 6 (some .int) 1 := ⟨u_4_19, u_4_20, u_4_21, u_1_12, u_4_22, by decide +kernel⟩
theorem cw_RX6_191 : CW RX6 191 RX1 yX1_turnsToQuiet cX1_turnsToQuiet 1 (some .int) 0 := ⟨u_17_21, u_17_22, u_17_23, u_1_12, u_18_0, by decide +kernel⟩
set_option maxHeartbeats 4000000 in
set_option maxRecDepth 100000 in
theorem ct_X6_playerOf (l : Launch) (L : Lay) (g : St) (p w : Int) (hp : 0 ≤ p ∧ p < 4) (hww : 0 ≤ w ∧ w ≤ 6) (hw : wf g 0 1) : Met l yX6_playerOf (.code yX6_playerOf cX6_playerOf 3 (some .int) :: wsL_law) { frames := 2, cells := 0, slots := 0, locals := 45 } (va_Pc [.ref (adr L 0 0 0), .int (iI p), .int (iI w)] (HS L g)) (va_Qi (fun (r9 : Int32) (u9 : St) => r9 = iI (plN g 0 p w) ∧ u9 = g) (fun u t => HS L u t) (Af L)) 0 0 (Af L) := by
  refine ct_mk (by decide +kernel) (Nat.le_of_ble_eq_true rfl) ?_
  intro pp ee ss mm bel mth cx C hr hlk
  show V pp l ee { frames := 2, cells := 0, slots := 0, locals := 45 } ss mm ([.ref (adr L 0 0 0), .int (iI p), .int (iI w)]).toArray bel mth cx 3 L (HH L g) 0 0 _ 0 [(0, .ref (adr L 0 0 0)), (1, .int (iI p)), (2, .int (iI w))] []
  refine v_iload_n (pc := 0) C 1 rfl rfl dX6_playerOf_0 ?_
  refine v_callvS (pc := 1) C cw_RX6_45 (ct_X6_checkPlayer l L g p (by first | assumption | omega | (unfold rg; omega))) ⟨Nat.le_of_ble_eq_true rfl, Nat.le_of_ble_eq_true rfl⟩ rfl (Nat.le_of_ble_eq_true rfl) ⟨Nat.le_of_ble_eq_true rfl, Nat.le_of_ble_eq_true rfl⟩ rfl dX6_playerOf_1 (fun u9 hP_1 => ?_)
  rw [hP_1]
  clear hP_1 u9
  refine v_iload_n (pc := 4) C 2 rfl rfl dX6_playerOf_4 ?_
  refine v_iconst (pc := 5) C dX6_playerOf_5 ?_
  refine v_bipush (pc := 6) C rfl dX6_playerOf_6 ?_
  refine v_callvS (pc := 8) C cw_RX6_49 (ct_X6_checkRange l L g w 0 6 (by first | assumption | omega | (unfold rg; omega)) (by first | assumption | omega | (unfold rg; omega)) (by first | assumption | omega | (unfold rg; omega)) (by first | assumption | omega | (unfold rg; omega))) ⟨Nat.le_of_ble_eq_true rfl, Nat.le_of_ble_eq_true rfl⟩ rfl (Nat.le_of_ble_eq_true rfl) ⟨Nat.le_of_ble_eq_true rfl, Nat.le_of_ble_eq_true rfl⟩ rfl dX6_playerOf_8 (fun u9 hP_2 => ?_)
  rw [hP_2]
  clear hP_2 u9
  refine v_aload_n (pc := 11) C 0 rfl rfl dX6_playerOf_11 ?_
  refine gt_0_0 (pc := 12) C u_1_13 dX6_playerOf_12 ?_
  refine v_iload_n (pc := 15) C 1 rfl rfl dX6_playerOf_15 ?_
  refine v_iload_n (pc := 16) C 2 rfl rfl dX6_playerOf_16 ?_
  refine v_calliV (pc := 17) C cw_RX6_160 (rcv_1 ⟨by (first | assumption | omega | (unfold rg; omega)), by (first | assumption | omega | (unfold rg; omega))⟩) (ct_X1_playerNumber l L g 0 1 p w (by first | assumption | omega | (unfold rg; omega)) (by first | assumption | omega | (unfold rg; omega)) (by first | assumption | omega | (unfold rg; omega)) (by first | assumption | omega | (unfold rg; omega)) (by first | assumption | omega | (unfold rg; omega))) ⟨Nat.le_of_ble_eq_true rfl, Nat.le_of_ble_eq_true rfl⟩ rfl (Nat.le_of_ble_eq_true rfl) ⟨Nat.le_of_ble_eq_true rfl, Nat.le_of_ble_eq_true rfl⟩ rfl dX6_playerOf_17 (fun r9 u9 hP_3 => ?_)
  obtain ⟨hP_3, hP_3b⟩ := hP_3
  rw [hP_3, hP_3b]
  clear hP_3 hP_3b r9 u9
  exact v_iret (pc := 20) C hr hlk (⟨rfl, rfl⟩) dX6_playerOf_20
set_option maxHeartbeats 4000000 in
set_option maxRecDepth 100000 in
theorem ct_X6_echoOf (l : Launch) (L : Lay) (g : St) (r w : Int) (hrr : rg r) (hr0 : 0 ≤ r) (hww : 0 ≤ w ∧ w ≤ 5) (hw : wf g 0 1) : Met l yX6_echoOf (.code yX6_echoOf cX6_echoOf 3 (some .int) :: wsL_law) { frames := 3, cells := 0, slots := 0, locals := 68 } (va_Pc [.ref (adr L 0 0 0), .int (iI r), .int (iI w)] (HS L g)) (va_Qi (fun (r9 : Int32) (u9 : St) => r9 = iI (ecN g 0 r w) ∧ u9 = g) (fun u t => HS L u t) (Af L)) 0 0 (Af L) := by
  refine ct_mk (by decide +kernel) (Nat.le_of_ble_eq_true rfl) ?_
  intro pp ee ss mm bel mth cx C hr hlk
  show V pp l ee { frames := 3, cells := 0, slots := 0, locals := 68 } ss mm ([.ref (adr L 0 0 0), .int (iI r), .int (iI w)]).toArray bel mth cx 3 L (HH L g) 0 0 _ 0 [(0, .ref (adr L 0 0 0)), (1, .int (iI r)), (2, .int (iI w))] []
  unfold rg at hrr
  refine v_iload_n (pc := 0) C 1 rfl rfl dX6_echoOf_0 ?_
  refine v_if_ge (pc := 1) C 14 ⟨by (first | assumption | omega | (unfold rg; omega)), by (first | assumption | omega | (unfold rg; omega))⟩ (by decide) dX6_echoOf_1 (fun h1 => ?_) (fun h1 => ?_)
  · skip
    refine v_iload_n (pc := 14) C 2 rfl rfl dX6_echoOf_14 ?_
    refine v_iconst (pc := 15) C dX6_echoOf_15 ?_
    refine v_iconst (pc := 16) C dX6_echoOf_16 ?_
    refine v_callvS (pc := 17) C cw_RX6_49 (ct_X6_checkRange l L g w 0 5 (by first | assumption | omega | (unfold rg; omega)) (by first | assumption | omega | (unfold rg; omega)) (by first | assumption | omega | (unfold rg; omega)) (by first | assumption | omega | (unfold rg; omega))) ⟨Nat.le_of_ble_eq_true rfl, Nat.le_of_ble_eq_true rfl⟩ rfl (Nat.le_of_ble_eq_true rfl) ⟨Nat.le_of_ble_eq_true rfl, Nat.le_of_ble_eq_true rfl⟩ rfl dX6_echoOf_17 (fun u9 hP_1 => ?_)
    rw [hP_1]
    clear hP_1 u9
    refine v_aload_n (pc := 20) C 0 rfl rfl dX6_echoOf_20 ?_
    refine gt_0_0 (pc := 21) C u_1_13 dX6_echoOf_21 ?_
    refine v_iload_n (pc := 24) C 1 rfl rfl dX6_echoOf_24 ?_
    refine v_iload_n (pc := 25) C 2 rfl rfl dX6_echoOf_25 ?_
    refine v_calliV (pc := 26) C cw_RX6_165 (rcv_1 ⟨by (first | assumption | omega | (unfold rg; omega)), by (first | assumption | omega | (unfold rg; omega))⟩) (ct_X1_echoNumber l L g 0 1 r w (by first | assumption | omega | (unfold rg; omega)) (by first | assumption | omega | (unfold rg; omega)) (by first | assumption | omega | (unfold rg; omega)) (by first | assumption | omega | (unfold rg; omega)) (by first | assumption | omega | (unfold rg; omega))) ⟨Nat.le_of_ble_eq_true rfl, Nat.le_of_ble_eq_true rfl⟩ rfl (Nat.le_of_ble_eq_true rfl) ⟨Nat.le_of_ble_eq_true rfl, Nat.le_of_ble_eq_true rfl⟩ rfl dX6_echoOf_26 (fun r9 u9 hP_2 => ?_)
    obtain ⟨hP_2, hP_2b⟩ := hP_2
    rw [hP_2, hP_2b]
    clear hP_2 hP_2b r9 u9
    exact v_iret (pc := 29) C hr hlk (⟨rfl, rfl⟩) dX6_echoOf_29
  · skip
    exfalso; omega
set_option maxHeartbeats 4000000 in
set_option maxRecDepth 100000 in
theorem ct_X6_count (l : Launch) (L : Lay) (g : St) (w : Int) (hww : 0 ≤ w ∧ w ≤ 11) (hw : wf g 0 1) : Met l yX6_count (.code yX6_count cX6_count 2 (some .int) :: wsL_law) { frames := 5, cells := 0, slots := 0, locals := 110 } (va_Pc [.ref (adr L 0 0 0), .int (iI w)] (HS L g)) (va_Qi (fun (r9 : Int32) (u9 : St) => r9 = iI (ctN g w) ∧ u9 = g) (fun u t => HS L u t) (Af L)) 0 0 (Af L) := by
  refine ct_mk (by decide +kernel) (Nat.le_of_ble_eq_true rfl) ?_
  intro pp ee ss mm bel mth cx C hr hlk
  show V pp l ee { frames := 5, cells := 0, slots := 0, locals := 110 } ss mm ([.ref (adr L 0 0 0), .int (iI w)]).toArray bel mth cx 2 L (HH L g) 0 0 _ 0 [(0, .ref (adr L 0 0 0)), (1, .int (iI w))] []
  refine v_iload_n (pc := 0) C 1 rfl rfl dX6_count_0 ?_
  refine v_iconst (pc := 1) C dX6_count_1 ?_
  refine v_bipush (pc := 2) C rfl dX6_count_2 ?_
  refine v_callvS (pc := 4) C cw_RX6_49 (ct_X6_checkRange l L g w 0 11 (by first | assumption | omega | (unfold rg; omega)) (by first | assumption | omega | (unfold rg; omega)) (by first | assumption | omega | (unfold rg; omega)) (by first | assumption | omega | (unfold rg; omega))) ⟨Nat.le_of_ble_eq_true rfl, Nat.le_of_ble_eq_true rfl⟩ rfl (Nat.le_of_ble_eq_true rfl) ⟨Nat.le_of_ble_eq_true rfl, Nat.le_of_ble_eq_true rfl⟩ rfl dX6_count_4 (fun u9 hP_1 => ?_)
  rw [hP_1]
  clear hP_1 u9
  refine v_aload_n (pc := 7) C 0 rfl rfl dX6_count_7 ?_
  refine v_iload_n (pc := 8) C 1 rfl rfl dX6_count_8 ?_
  refine v_calliV (pc := 9) C cw_RX6_168 rcv_0 (ct_X6_countNumber l L g w (by first | assumption | omega | (unfold rg; omega)) (by first | assumption | omega | (unfold rg; omega))) ⟨Nat.le_of_ble_eq_true rfl, Nat.le_of_ble_eq_true rfl⟩ rfl (Nat.le_of_ble_eq_true rfl) ⟨Nat.le_of_ble_eq_true rfl, Nat.le_of_ble_eq_true rfl⟩ rfl dX6_count_9 (fun r9 u9 hP_2 => ?_)
  obtain ⟨hP_2, hP_2b⟩ := hP_2
  rw [hP_2, hP_2b]
  clear hP_2 hP_2b r9 u9
  exact v_iret (pc := 12) C hr hlk (⟨rfl, rfl⟩) dX6_count_12
set_option maxHeartbeats 4000000 in
set_option maxRecDepth 100000 in
theorem ct_X6_ballIn (l : Launch) (L : Lay) (g : St) (t w : Int) (htt : 0 ≤ t ∧ t ≤ 99) (hww : 0 ≤ w ∧ w ≤ 2) (hw : wf g 0 1) : Met l yX6_ballIn (.code yX6_ballIn cX6_ballIn 3 (some .int) :: wsL_law) { frames := 3, cells := 0, slots := 0, locals := 69 } (va_Pc [.ref (adr L 0 0 0), .int (iI t), .int (iI w)] (HS L g)) (va_Qi (fun (r9 : Int32) (u9 : St) => r9 = iI (bnN g t w) ∧ u9 = (bnG g t w)) (fun u t => HS L u t) (Af L)) 0 0 (Af L) := by
  refine ct_mk (by decide +kernel) (Nat.le_of_ble_eq_true rfl) ?_
  intro pp ee ss mm bel mth cx C hr hlk
  show V pp l ee { frames := 3, cells := 0, slots := 0, locals := 69 } ss mm ([.ref (adr L 0 0 0), .int (iI t), .int (iI w)]).toArray bel mth cx 3 L (HH L g) 0 0 _ 0 [(0, .ref (adr L 0 0 0)), (1, .int (iI t)), (2, .int (iI w))] []
  refine v_iload_n (pc := 0) C 1 rfl rfl dX6_ballIn_0 ?_
  refine v_iconst (pc := 1) C dX6_ballIn_1 ?_
  refine v_bipush (pc := 2) C rfl dX6_ballIn_2 ?_
  refine v_callvS (pc := 4) C cw_RX6_49 (ct_X6_checkRange l L g t 0 99 (by first | assumption | omega | (unfold rg; omega)) (by first | assumption | omega | (unfold rg; omega)) (by first | assumption | omega | (unfold rg; omega)) (by first | assumption | omega | (unfold rg; omega))) ⟨Nat.le_of_ble_eq_true rfl, Nat.le_of_ble_eq_true rfl⟩ rfl (Nat.le_of_ble_eq_true rfl) ⟨Nat.le_of_ble_eq_true rfl, Nat.le_of_ble_eq_true rfl⟩ rfl dX6_ballIn_4 (fun u9 hP_1 => ?_)
  rw [hP_1]
  clear hP_1 u9
  refine v_iload_n (pc := 7) C 2 rfl rfl dX6_ballIn_7 ?_
  refine v_iconst (pc := 8) C dX6_ballIn_8 ?_
  refine v_iconst (pc := 9) C dX6_ballIn_9 ?_
  refine v_callvS (pc := 10) C cw_RX6_49 (ct_X6_checkRange l L g w 0 2 (by first | assumption | omega | (unfold rg; omega)) (by first | assumption | omega | (unfold rg; omega)) (by first | assumption | omega | (unfold rg; omega)) (by first | assumption | omega | (unfold rg; omega))) ⟨Nat.le_of_ble_eq_true rfl, Nat.le_of_ble_eq_true rfl⟩ rfl (Nat.le_of_ble_eq_true rfl) ⟨Nat.le_of_ble_eq_true rfl, Nat.le_of_ble_eq_true rfl⟩ rfl dX6_ballIn_10 (fun u9 hP_2 => ?_)
  rw [hP_2]
  clear hP_2 u9
  refine v_aload_n (pc := 13) C 0 rfl rfl dX6_ballIn_13 ?_
  refine v_iload_n (pc := 14) C 1 rfl rfl dX6_ballIn_14 ?_
  refine v_iload_n (pc := 15) C 2 rfl rfl dX6_ballIn_15 ?_
  refine v_calliV (pc := 16) C cw_RX6_171 rcv_0 (ct_X6_ballNumber l L g t w (by first | assumption | omega | (unfold rg; omega)) (by first | assumption | omega | (unfold rg; omega)) (by first | assumption | omega | (unfold rg; omega))) ⟨Nat.le_of_ble_eq_true rfl, Nat.le_of_ble_eq_true rfl⟩ rfl (Nat.le_of_ble_eq_true rfl) ⟨Nat.le_of_ble_eq_true rfl, Nat.le_of_ble_eq_true rfl⟩ rfl dX6_ballIn_16 (fun r9 u9 hP_3 => ?_)
  obtain ⟨hP_3, hP_3b⟩ := hP_3
  rw [hP_3, hP_3b]
  clear hP_3 hP_3b r9 u9
  exact v_iret (pc := 19) C hr hlk (⟨rfl, rfl⟩) dX6_ballIn_19
set_option maxHeartbeats 4000000 in
set_option maxRecDepth 100000 in
theorem ct_X6_echoIn (l : Launch) (L : Lay) (g : St) (p w : Int) (hp : 0 ≤ p ∧ p < 4) (hww : 0 ≤ w ∧ w ≤ 1) (hw : wf g 0 1) : Met l yX6_echoIn (.code yX6_echoIn cX6_echoIn 3 (some .int) :: wsL_law) { frames := 2, cells := 0, slots := 0, locals := 46 } (va_Pc [.ref (adr L 0 0 0), .int (iI p), .int (iI w)] (HS L g)) (va_Qi (fun (r9 : Int32) (u9 : St) => r9 = iI (eT g 0 (g 6 0 p 0) w) ∧ u9 = g) (fun u t => HS L u t) (Af L)) 0 0 (Af L) := by
  refine ct_mk (by decide +kernel) (Nat.le_of_ble_eq_true rfl) ?_
  intro pp ee ss mm bel mth cx C hr hlk
  show V pp l ee { frames := 2, cells := 0, slots := 0, locals := 46 } ss mm ([.ref (adr L 0 0 0), .int (iI p), .int (iI w)]).toArray bel mth cx 3 L (HH L g) 0 0 _ 0 [(0, .ref (adr L 0 0 0)), (1, .int (iI p)), (2, .int (iI w))] []
  obtain ⟨hS0, hS1, hS2, hB0, hB1, hB2, hCl, hN, hPl, hPm, hPj, hEc, hSo⟩ := id hw
  refine v_iload_n (pc := 0) C 1 rfl rfl dX6_echoIn_0 ?_
  refine v_callvS (pc := 1) C cw_RX6_45 (ct_X6_checkPlayer l L g p (by first | assumption | omega | (unfold rg; omega))) ⟨Nat.le_of_ble_eq_true rfl, Nat.le_of_ble_eq_true rfl⟩ rfl (Nat.le_of_ble_eq_true rfl) ⟨Nat.le_of_ble_eq_true rfl, Nat.le_of_ble_eq_true rfl⟩ rfl dX6_echoIn_1 (fun u9 hP_1 => ?_)
  rw [hP_1]
  clear hP_1 u9
  refine v_iload_n (pc := 4) C 2 rfl rfl dX6_echoIn_4 ?_
  refine v_iconst (pc := 5) C dX6_echoIn_5 ?_
  refine v_iconst (pc := 6) C dX6_echoIn_6 ?_
  refine v_callvS (pc := 7) C cw_RX6_49 (ct_X6_checkRange l L g w 0 1 (by first | assumption | omega | (unfold rg; omega)) (by first | assumption | omega | (unfold rg; omega)) (by first | assumption | omega | (unfold rg; omega)) (by first | assumption | omega | (unfold rg; omega))) ⟨Nat.le_of_ble_eq_true rfl, Nat.le_of_ble_eq_true rfl⟩ rfl (Nat.le_of_ble_eq_true rfl) ⟨Nat.le_of_ble_eq_true rfl, Nat.le_of_ble_eq_true rfl⟩ rfl dX6_echoIn_7 (fun u9 hP_2 => ?_)
  rw [hP_2]
  clear hP_2 u9
  refine v_aload_n (pc := 10) C 0 rfl rfl dX6_echoIn_10 ?_
  have hpl := hPl p (by omega) (by omega)
  refine gt_0_0 (pc := 11) C u_1_13 dX6_echoIn_11 ?_
  refine v_aload_n (pc := 14) C 0 rfl rfl dX6_echoIn_14 ?_
  refine gt_0_0 (pc := 15) C u_1_13 dX6_echoIn_15 ?_
  refine gt_1_5 (pc := 18) C ⟨by (first | assumption | omega | (unfold rg; omega)), by (first | assumption | omega | (unfold rg; omega))⟩ u_10_0 dX6_echoIn_18 ?_
  refine v_iload_n (pc := 21) C 1 rfl rfl dX6_echoIn_21 ?_
  refine al_4 (pc := 22) C ⟨by (first | assumption | omega | (unfold rg; omega)), by (first | assumption | omega | (unfold rg; omega))⟩ ⟨by (first | assumption | omega | (unfold rg; omega)), by (first | assumption | omega | (unfold rg; omega))⟩ dX6_echoIn_22 ?_
  refine gt_6_0 (pc := 23) C ⟨⟨by (first | assumption | omega | (unfold rg; omega)), by (first | assumption | omega | (unfold rg; omega))⟩, ⟨by (first | assumption | omega | (unfold rg; omega)), by (first | assumption | omega | (unfold rg; omega))⟩⟩ u_10_1 dX6_echoIn_23 (g 6 0 p 0) (rfl) ?_
  refine v_iload_n (pc := 26) C 2 rfl rfl dX6_echoIn_26 ?_
  refine v_calliV (pc := 27) C cw_RX6_181 (rcv_1 ⟨by (first | assumption | omega | (unfold rg; omega)), by (first | assumption | omega | (unfold rg; omega))⟩) (ct_X1_echoTime l L g 0 (g 6 0 p 0) w (by first | assumption | omega | (unfold rg; omega)) (by first | assumption | omega | (unfold rg; omega)) (by first | assumption | omega | (unfold rg; omega)) (by first | assumption | omega | (unfold rg; omega)) (by first | assumption | omega | (unfold rg; omega)) (by first | assumption | omega | (unfold rg; omega))) ⟨Nat.le_of_ble_eq_true rfl, Nat.le_of_ble_eq_true rfl⟩ rfl (Nat.le_of_ble_eq_true rfl) ⟨Nat.le_of_ble_eq_true rfl, Nat.le_of_ble_eq_true rfl⟩ rfl dX6_echoIn_27 (fun r9 u9 hP_3 => ?_)
  obtain ⟨hP_3, hP_3b⟩ := hP_3
  rw [hP_3, hP_3b]
  clear hP_3 hP_3b r9 u9
  exact v_iret (pc := 30) C hr hlk (⟨rfl, rfl⟩) dX6_echoIn_30
set_option maxHeartbeats 4000000 in
set_option maxRecDepth 100000 in
theorem ct_X6_wouldClash (l : Launch) (L : Lay) (g : St) (p w : Int) (hp : 0 ≤ p ∧ p < 4) (hww : 0 ≤ w ∧ w ≤ 1) (hw : wf g 0 1) : Met l yX6_wouldClash (.code yX6_wouldClash cX6_wouldClash 3 (some .int) :: wsL_law) { frames := 3, cells := 0, slots := 0, locals := 70 } (va_Pc [.ref (adr L 0 0 0), .int (iI p), .int (iI w)] (HS L g)) (va_Qi (fun (r9 : Int32) (u9 : St) => r9 = iI (if eT g 0 (g 6 0 p 0) w = eT g 0 (g 6 0 p 0) (1 - w) ∨ eDue g 0 (g 6 0 p 0) (g 1 0 0 0 + eT g 0 (g 6 0 p 0) w) then 1 else 0) ∧ u9 = g) (fun u t => HS L u t) (Af L)) 0 0 (Af L) := by
  refine ct_mk (by decide +kernel) (Nat.le_of_ble_eq_true rfl) ?_
  intro pp ee ss mm bel mth cx C hr hlk
  show V pp l ee { frames := 3, cells := 0, slots := 0, locals := 70 } ss mm ([.ref (adr L 0 0 0), .int (iI p), .int (iI w)]).toArray bel mth cx 3 L (HH L g) 0 0 _ 0 [(0, .ref (adr L 0 0 0)), (1, .int (iI p)), (2, .int (iI w))] []
  refine v_iload_n (pc := 0) C 1 rfl rfl dX6_wouldClash_0 ?_
  refine v_callvS (pc := 1) C cw_RX6_45 (ct_X6_checkPlayer l L g p (by first | assumption | omega | (unfold rg; omega))) ⟨Nat.le_of_ble_eq_true rfl, Nat.le_of_ble_eq_true rfl⟩ rfl (Nat.le_of_ble_eq_true rfl) ⟨Nat.le_of_ble_eq_true rfl, Nat.le_of_ble_eq_true rfl⟩ rfl dX6_wouldClash_1 (fun u9 hP_1 => ?_)
  rw [hP_1]
  clear hP_1 u9
  refine v_iload_n (pc := 4) C 2 rfl rfl dX6_wouldClash_4 ?_
  refine v_iconst (pc := 5) C dX6_wouldClash_5 ?_
  refine v_iconst (pc := 6) C dX6_wouldClash_6 ?_
  refine v_callvS (pc := 7) C cw_RX6_49 (ct_X6_checkRange l L g w 0 1 (by first | assumption | omega | (unfold rg; omega)) (by first | assumption | omega | (unfold rg; omega)) (by first | assumption | omega | (unfold rg; omega)) (by first | assumption | omega | (unfold rg; omega))) ⟨Nat.le_of_ble_eq_true rfl, Nat.le_of_ble_eq_true rfl⟩ rfl (Nat.le_of_ble_eq_true rfl) ⟨Nat.le_of_ble_eq_true rfl, Nat.le_of_ble_eq_true rfl⟩ rfl dX6_wouldClash_7 (fun u9 hP_2 => ?_)
  rw [hP_2]
  clear hP_2 u9
  refine v_aload_n (pc := 10) C 0 rfl rfl dX6_wouldClash_10 ?_
  refine gt_0_0 (pc := 11) C u_1_13 dX6_wouldClash_11 ?_
  refine v_iload_n (pc := 14) C 1 rfl rfl dX6_wouldClash_14 ?_
  refine v_iload_n (pc := 15) C 2 rfl rfl dX6_wouldClash_15 ?_
  refine v_calliV (pc := 16) C cw_RX6_184 (rcv_1 ⟨by (first | assumption | omega | (unfold rg; omega)), by (first | assumption | omega | (unfold rg; omega))⟩) (ct_X1_newEchoClashes l L g 0 1 p w (by first | assumption | omega | (unfold rg; omega)) (by first | assumption | omega | (unfold rg; omega)) (by first | assumption | omega | (unfold rg; omega)) (by first | assumption | omega | (unfold rg; omega)) (by first | assumption | omega | (unfold rg; omega))) ⟨Nat.le_of_ble_eq_true rfl, Nat.le_of_ble_eq_true rfl⟩ rfl (Nat.le_of_ble_eq_true rfl) ⟨Nat.le_of_ble_eq_true rfl, Nat.le_of_ble_eq_true rfl⟩ rfl dX6_wouldClash_16 (fun r9 u9 hP_3 => ?_)
  obtain ⟨hP_3, hP_3b⟩ := hP_3
  rw [hP_3, hP_3b]
  clear hP_3 hP_3b r9 u9
  refine v_if_eq (pc := 19) C 26 ⟨by split <;> decide, by split <;> decide⟩ (by decide) dX6_wouldClash_19 (fun h19 => ?_) (fun h19 => ?_)
  · skip
    refine v_iconst (pc := 26) C dX6_wouldClash_26 ?_
    exact v_iret (pc := 27) C hr hlk (⟨congrArg iI (by first | (rw [if_pos]; exact Decidable.byContradiction (fun hn => h19 (if_neg hn))) | (rw [if_neg]; intro hp; rw [if_pos hp] at h19; exact absurd h19 (by decide))), rfl⟩) dX6_wouldClash_27
  · skip
    refine v_iconst (pc := 22) C dX6_wouldClash_22 ?_
    refine v_goto (pc := 23) C 27 (by decide) dX6_wouldClash_23 ?_
    exact v_iret (pc := 27) C hr hlk (⟨congrArg iI (by first | (rw [if_pos]; exact Decidable.byContradiction (fun hn => h19 (if_neg hn))) | (rw [if_neg]; intro hp; rw [if_pos hp] at h19; exact absurd h19 (by decide))), rfl⟩) dX6_wouldClash_27
set_option maxHeartbeats 4000000 in
set_option maxRecDepth 100000 in
theorem ct_X6_callIn (l : Launch) (L : Lay) (g : St) (p : Int) (hp : 0 ≤ p ∧ p < 4) (hw : wf g 0 1) : Met l yX6_callIn (.code yX6_callIn cX6_callIn 2 (some .int) :: wsL_law) { frames := 4, cells := 0, slots := 0, locals := 93 } (va_Pc [.ref (adr L 0 0 0), .int (iI p)] (HS L g)) (va_Qi (fun (r9 : Int32) (u9 : St) => r9 = iI (if eT g 0 (g 6 0 p 0) 0 = eT g 0 (g 6 0 p 0) 1 then -1 else frst (pW g 0 (g 6 0 p 0)) 61 0) ∧ u9 = g) (fun u t => HS L u t) (Af L)) 0 0 (Af L) := by
  refine ct_mk (by decide +kernel) (Nat.le_of_ble_eq_true rfl) ?_
  intro pp ee ss mm bel mth cx C hr hlk
  show V pp l ee { frames := 4, cells := 0, slots := 0, locals := 93 } ss mm ([.ref (adr L 0 0 0), .int (iI p)]).toArray bel mth cx 2 L (HH L g) 0 0 _ 0 [(0, .ref (adr L 0 0 0)), (1, .int (iI p))] []
  refine v_iload_n (pc := 0) C 1 rfl rfl dX6_callIn_0 ?_
  refine v_callvS (pc := 1) C cw_RX6_45 (ct_X6_checkPlayer l L g p (by first | assumption | omega | (unfold rg; omega))) ⟨Nat.le_of_ble_eq_true rfl, Nat.le_of_ble_eq_true rfl⟩ rfl (Nat.le_of_ble_eq_true rfl) ⟨Nat.le_of_ble_eq_true rfl, Nat.le_of_ble_eq_true rfl⟩ rfl dX6_callIn_1 (fun u9 hP_1 => ?_)
  rw [hP_1]
  clear hP_1 u9
  refine v_aload_n (pc := 4) C 0 rfl rfl dX6_callIn_4 ?_
  refine gt_0_0 (pc := 5) C u_1_13 dX6_callIn_5 ?_
  refine v_iload_n (pc := 8) C 1 rfl rfl dX6_callIn_8 ?_
  refine v_calliV (pc := 9) C cw_RX6_188 (rcv_1 ⟨by (first | assumption | omega | (unfold rg; omega)), by (first | assumption | omega | (unfold rg; omega))⟩) (ct_X1_turnsToWait l L g 0 1 p (by first | assumption | omega | (unfold rg; omega)) (by first | assumption | omega | (unfold rg; omega)) (by first | assumption | omega | (unfold rg; omega)) (by first | assumption | omega | (unfold rg; omega))) ⟨Nat.le_of_ble_eq_true rfl, Nat.le_of_ble_eq_true rfl⟩ rfl (Nat.le_of_ble_eq_true rfl) ⟨Nat.le_of_ble_eq_true rfl, Nat.le_of_ble_eq_true rfl⟩ rfl dX6_callIn_9 (fun r9 u9 hP_2 => ?_)
  obtain ⟨hP_2, hP_2b⟩ := hP_2
  rw [hP_2, hP_2b]
  clear hP_2 hP_2b r9 u9
  exact v_iret (pc := 12) C hr hlk (⟨rfl, rfl⟩) dX6_callIn_12
set_option maxHeartbeats 4000000 in
set_option maxRecDepth 100000 in
theorem ct_X6_quietIn (l : Launch) (L : Lay) (g : St) (hw : wf g 0 1) : Met l yX6_quietIn (.code yX6_quietIn cX6_quietIn 1 (some .int) :: wsL_law) { frames := 1, cells := 0, slots := 0, locals := 20 } (va_Pc [.ref (adr L 0 0 0)] (HS L g)) (va_Qi (fun (r9 : Int32) (u9 : St) => r9 = iI (if 0 < g 1 0 0 2 then eF g 0 (g 1 0 0 2 - 1) 3 - g 1 0 0 0 else 0) ∧ u9 = g) (fun u t => HS L u t) (Af L)) 0 0 (Af L) := by
  refine ct_mk (by decide +kernel) (Nat.le_of_ble_eq_true rfl) ?_
  intro pp ee ss mm bel mth cx C hr hlk
  show V pp l ee { frames := 1, cells := 0, slots := 0, locals := 20 } ss mm ([.ref (adr L 0 0 0)]).toArray bel mth cx 1 L (HH L g) 0 0 _ 0 [(0, .ref (adr L 0 0 0))] []
  refine v_aload_n (pc := 0) C 0 rfl rfl dX6_quietIn_0 ?_
  refine gt_0_0 (pc := 1) C u_1_13 dX6_quietIn_1 ?_
  refine v_calliV (pc := 4) C cw_RX6_191 (rcv_1 ⟨by (first | assumption | omega | (simp [bl, up] <;> omega)), by (first | assumption | omega | (simp [bl, up] <;> omega))⟩) (ct_X1_turnsToQuiet l L g 0 1 (by first | assumption | omega | (simp [bl, up] <;> omega)) (by first | assumption | omega | (simp [bl, up] <;> omega)) (by first | assumption | omega | (simp [bl, up] <;> omega))) ⟨Nat.le_of_ble_eq_true rfl, Nat.le_of_ble_eq_true rfl⟩ rfl (Nat.le_of_ble_eq_true rfl) ⟨Nat.le_of_ble_eq_true rfl, Nat.le_of_ble_eq_true rfl⟩ rfl dX6_quietIn_4 (fun r9 u9 hP_1 => ?_)
  obtain ⟨hP_1, hP_1b⟩ := hP_1
  rw [hP_1, hP_1b]
  clear hP_1 hP_1b r9 u9
  exact v_iret (pc := 7) C hr hlk (⟨rfl, rfl⟩) dX6_quietIn_7
