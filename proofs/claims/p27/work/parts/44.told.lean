/-! the law's calls of the class; what it is told -/
def tdC (g : St) : Nat → Int → Int
  | 0, v => v
  | n + 1, v => 31 * tdC g n v + ctN g n
def tdQ (g : St) (p : Int) : Nat → Int → Int
  | 0, v => v
  | n + 1, v => 31 * tdQ g p n v + plN g 0 p n
def tdP (g : St) : Nat → Int → Int
  | 0, v => v
  | n + 1, v => tdQ g n 7 (tdP g n v)
def tdF (g : St) (r : Int) : Nat → Int → Int
  | 0, v => v
  | n + 1, v => 31 * tdF g r n v + ecN g 0 r n
def tdE (g : St) : Nat → Int → Int
  | 0, v => v
  | n + 1, v => tdF g n 6 (tdE g n v)
def tdN (g : St) : Int := 31 * tdE g (ctN g 4).toNat (tdP g 4 (tdC g 11 43)) + eT g 0 (g 6 0 0 0) 1
theorem td_s {F : Int → Int} {G : Nat → Int → Int} (h : ∀ n v, G (n + 1) v = 31 * G n v + F n) {i v : Int} (hi : 0 ≤ i) : G (i + 1).toNat v = 31 * G i.toNat v + F i := by
  rw [show (i + 1).toNat = i.toNat + 1 by omega, h, show ((i.toNat : Nat) : Int) = i by omega]
theorem tdP_s (g : St) {i v : Int} (hi : 0 ≤ i) : tdP g (i + 1).toNat v = tdQ g i 7 (tdP g i.toNat v) := by
  rw [show (i + 1).toNat = i.toNat + 1 by omega, tdP, show ((i.toNat : Nat) : Int) = i by omega]
theorem tdE_s (g : St) {i v : Int} (hi : 0 ≤ i) : tdE g (i + 1).toNat v = tdF g i 6 (tdE g i.toNat v) := by
  rw [show (i + 1).toNat = i.toNat + 1 by omega, tdE, show ((i.toNat : Nat) : Int) = i by omega]
theorem cr_rg {g : St} (hw : wf g 0 1) (hct : ctr g 0) (h8 : 0 ≤ g 8 0 0 1 ∧ g 8 0 0 1 ≤ 6) (h1 : 0 ≤ g 1 0 0 1 ∧ g 1 0 0 1 ≤ 100000000) (w : Int) : rg (ctN g w) := ctN_rg hw hct h8 h1
theorem ct_4 {g : St} (hw : wf g 0 1) : 0 ≤ ctN g 4 ∧ ctN g 4 ≤ 24 := by
  have hN := hw.2.2.2.2.2.2.2.1
  unfold ctN nbN; rw [if_neg (by decide), if_neg (by decide), if_neg (by decide), if_neg (by decide), if_neg (by decide), if_pos rfl]; exact hN

theorem cwh_L_count : CWh RL 87 yL_count cL_count 3 (some .int) [(0, 5, 6, 18)] 2 := ⟨u_6_15, u_6_16, u_3_22, u_6_17, by decide +kernel⟩
theorem cwh_L_echoIn : CWh RL 95 yL_echoIn cL_echoIn 4 (some .int) [(0, 6, 7, 16), (0, 6, 11, 18)] 3 := ⟨u_9_17, u_9_18, u_3_22, u_9_19, by decide +kernel⟩
theorem cwh_L_echoOf : CWh RL 93 yL_echoOf cL_echoOf 4 (some .int) [(0, 6, 7, 18)] 3 := ⟨u_8_22, u_8_23, u_3_22, u_9_0, by decide +kernel⟩
theorem cwh_L_playerOf : CWh RL 90 yL_playerOf cL_playerOf 4 (some .int) [(0, 6, 7, 16), (0, 6, 11, 18)] 3 := ⟨u_8_14, u_8_15, u_3_22, u_8_16, by decide +kernel⟩
theorem cw_RL_10 : CW RL 10 RX6 yX6_call cX6_call 3 (some .int) 2 := ⟨u_10_9, u_10_10, u_10_11, u_1_2, u_10_12, by decide +kernel⟩
theorem cw_RL_20 : CW RL 20 RX6 yX6_walk cX6_walk 3 (some .int) 2 := ⟨u_12_12, u_12_13, u_12_14, u_1_2, u_12_15, by decide +kernel⟩
theorem cw_RL_28 : CW RL 28 RX6 yX6_pass cX6_pass 2 (some .int) 1 := ⟨u_14_7, u_14_8, u_14_9, u_1_2, u_14_10, by decide +kernel⟩
theorem cw_RL_32 : CW RL 32 RX6 yX6_undo cX6_undo 1 (some .int) 0 := ⟨u_16_0, u_16_1, u_16_2, u_1_2, u_16_3, by decide +kernel⟩
theorem cw_RL_36 : CW RL 36 RX6 yX6_playerOf cX6_playerOf 3 (some .int) 2 := ⟨u_8_17, u_8_18, u_8_19, u_1_2, u_8_20, by decide +kernel⟩
theorem cw_RL_39 : CW RL 39 RX6 yX6_echoOf cX6_echoOf 3 (some .int) 2 := ⟨u_9_1, u_9_2, u_9_3, u_1_2, u_9_4, by decide +kernel⟩
theorem cw_RL_42 : CW RL 42 RX6 yX6_count cX6_count 2 (some .int) 1 := ⟨u_6_19, u_6_20, u_6_21, u_1_2, u_6_22, by decide +kernel⟩
theorem cw_RL_45 : CW RL 45 RX6 yX6_ballIn cX6_ballIn 3 (some .int) 2 := ⟨u_19_2, u_19_3, u_19_4, u_1_2, u_19_5, by decide +kernel⟩
theorem cw_RL_48 : CW RL 48 RX6 yX6_echoIn cX6_echoIn 3 (some .int) 2 := ⟨u_9_20, u_9_21, u_9_22, u_1_2, u_9_23, by decide +kernel⟩
theorem cw_RL_51 : CW RL 51 RX6 yX6_wouldClash cX6_wouldClash 3 (some .int) 2 := ⟨u_18_15, u_18_16, u_18_17, u_1_2, u_18_18, by decide +kernel⟩
theorem cw_RL_54 : CW RL 54 RX6 yX6_callIn cX6_callIn 2 (some .int) 1 := ⟨u_4_10, u_4_11, u_4_12, u_1_2, u_4_13, by decide +kernel⟩
theorem cw_RL_57 : CW RL 57 RX6 yX6_throwBall cX6_throwBall 5 (some .int) 3 := ⟨u_12_23, u_13_0, u_13_1, u_1_2, u_13_2, by decide +kernel⟩
set_option maxHeartbeats 4000000 in
set_option maxRecDepth 100000 in
theorem ct_L_count (l : Launch) (L : Lay) (g : St) (w : Int) (hww : 0 ≤ w ∧ w ≤ 11) (hw : wf g 0 1) : Met l yL_count (.codeWith yL_count cL_count 3 (some .int) [(0, 5, 6, 18)] :: wsL_law) { frames := 6, cells := 0, slots := 0, locals := 131 } (va_Pc [.ref (adr L 0 0 0), .int (iI w)] (HS L g)) (va_Qi (fun (r9 : Int32) (u9 : St) => r9 = iI (ctN g w) ∧ u9 = g) (fun u t => HS L u t) (Af L)) 0 0 (Af L) := by
  refine ct_mkH (by decide +kernel) (Nat.le_of_ble_eq_true rfl) ?_
  intro pp ee ss mm bel mth cx C hr hlk htab
  show V pp l ee { frames := 6, cells := 0, slots := 0, locals := 131 } ss mm ([.ref (adr L 0 0 0), .int (iI w)]).toArray bel mth cx 3 L (HH L g) 0 0 _ 0 [(0, .ref (adr L 0 0 0)), (1, .int (iI w))] []
  refine v_aload_n (pc := 0) C 0 rfl rfl dL_count_0 ?_
  refine v_iload_n (pc := 1) C 1 rfl rfl dL_count_1 ?_
  refine v_calliV (pc := 2) C cw_RL_42 rcv_0 (ct_X6_count l L g w (by first | assumption | omega | (unfold rg; omega)) (by first | assumption | omega | (unfold rg; omega))) ⟨Nat.le_of_ble_eq_true rfl, Nat.le_of_ble_eq_true rfl⟩ rfl (Nat.le_of_ble_eq_true rfl) ⟨Nat.le_of_ble_eq_true rfl, Nat.le_of_ble_eq_true rfl⟩ rfl dL_count_2 (fun r9 u9 hP_1 => ?_)
  obtain ⟨hP_1, hP_1b⟩ := hP_1
  rw [hP_1, hP_1b]
  clear hP_1 hP_1b r9 u9
  exact v_iret (pc := 5) C hr hlk (⟨rfl, rfl⟩) dL_count_5
set_option maxHeartbeats 4000000 in
set_option maxRecDepth 100000 in
theorem ct_L_playerOf (l : Launch) (L : Lay) (g : St) (p w : Int) (hp : 0 ≤ p ∧ p < 4) (hww : 0 ≤ w ∧ w ≤ 6) (hw : wf g 0 1) : Met l yL_playerOf (.codeWith yL_playerOf cL_playerOf 4 (some .int) [(0, 6, 7, 16), (0, 6, 11, 18)] :: wsL_law) { frames := 3, cells := 0, slots := 0, locals := 67 } (va_Pc [.ref (adr L 0 0 0), .int (iI p), .int (iI w)] (HS L g)) (va_Qi (fun (r9 : Int32) (u9 : St) => r9 = iI (plN g 0 p w) ∧ u9 = g) (fun u t => HS L u t) (Af L)) 0 0 (Af L) := by
  refine ct_mkH (by decide +kernel) (Nat.le_of_ble_eq_true rfl) ?_
  intro pp ee ss mm bel mth cx C hr hlk htab
  show V pp l ee { frames := 3, cells := 0, slots := 0, locals := 67 } ss mm ([.ref (adr L 0 0 0), .int (iI p), .int (iI w)]).toArray bel mth cx 4 L (HH L g) 0 0 _ 0 [(0, .ref (adr L 0 0 0)), (1, .int (iI p)), (2, .int (iI w))] []
  refine v_aload_n (pc := 0) C 0 rfl rfl dL_playerOf_0 ?_
  refine v_iload_n (pc := 1) C 1 rfl rfl dL_playerOf_1 ?_
  refine v_iload_n (pc := 2) C 2 rfl rfl dL_playerOf_2 ?_
  refine v_calliV (pc := 3) C cw_RL_36 rcv_0 (ct_X6_playerOf l L g p w (by first | assumption | omega | (unfold rg; omega)) (by first | assumption | omega | (unfold rg; omega)) (by first | assumption | omega | (unfold rg; omega))) ⟨Nat.le_of_ble_eq_true rfl, Nat.le_of_ble_eq_true rfl⟩ rfl (Nat.le_of_ble_eq_true rfl) ⟨Nat.le_of_ble_eq_true rfl, Nat.le_of_ble_eq_true rfl⟩ rfl dL_playerOf_3 (fun r9 u9 hP_1 => ?_)
  obtain ⟨hP_1, hP_1b⟩ := hP_1
  rw [hP_1, hP_1b]
  clear hP_1 hP_1b r9 u9
  exact v_iret (pc := 6) C hr hlk (⟨rfl, rfl⟩) dL_playerOf_6
set_option maxHeartbeats 4000000 in
set_option maxRecDepth 100000 in
theorem ct_L_echoOf (l : Launch) (L : Lay) (g : St) (r w : Int) (hrr : rg r) (hr0 : 0 ≤ r) (hww : 0 ≤ w ∧ w ≤ 5) (hw : wf g 0 1) : Met l yL_echoOf (.codeWith yL_echoOf cL_echoOf 4 (some .int) [(0, 6, 7, 18)] :: wsL_law) { frames := 4, cells := 0, slots := 0, locals := 90 } (va_Pc [.ref (adr L 0 0 0), .int (iI r), .int (iI w)] (HS L g)) (va_Qi (fun (r9 : Int32) (u9 : St) => r9 = iI (ecN g 0 r w) ∧ u9 = g) (fun u t => HS L u t) (Af L)) 0 0 (Af L) := by
  refine ct_mkH (by decide +kernel) (Nat.le_of_ble_eq_true rfl) ?_
  intro pp ee ss mm bel mth cx C hr hlk htab
  show V pp l ee { frames := 4, cells := 0, slots := 0, locals := 90 } ss mm ([.ref (adr L 0 0 0), .int (iI r), .int (iI w)]).toArray bel mth cx 4 L (HH L g) 0 0 _ 0 [(0, .ref (adr L 0 0 0)), (1, .int (iI r)), (2, .int (iI w))] []
  refine v_aload_n (pc := 0) C 0 rfl rfl dL_echoOf_0 ?_
  refine v_iload_n (pc := 1) C 1 rfl rfl dL_echoOf_1 ?_
  refine v_iload_n (pc := 2) C 2 rfl rfl dL_echoOf_2 ?_
  refine v_calliV (pc := 3) C cw_RL_39 rcv_0 (ct_X6_echoOf l L g r w (by first | assumption | omega | (unfold rg; omega)) (by first | assumption | omega | (unfold rg; omega)) (by first | assumption | omega | (unfold rg; omega)) (by first | assumption | omega | (unfold rg; omega))) ⟨Nat.le_of_ble_eq_true rfl, Nat.le_of_ble_eq_true rfl⟩ rfl (Nat.le_of_ble_eq_true rfl) ⟨Nat.le_of_ble_eq_true rfl, Nat.le_of_ble_eq_true rfl⟩ rfl dL_echoOf_3 (fun r9 u9 hP_1 => ?_)
  obtain ⟨hP_1, hP_1b⟩ := hP_1
  rw [hP_1, hP_1b]
  clear hP_1 hP_1b r9 u9
  exact v_iret (pc := 6) C hr hlk (⟨rfl, rfl⟩) dL_echoOf_6
set_option maxHeartbeats 4000000 in
set_option maxRecDepth 100000 in
theorem ct_L_echoIn (l : Launch) (L : Lay) (g : St) (p w : Int) (hp : 0 ≤ p ∧ p < 4) (hww : 0 ≤ w ∧ w ≤ 1) (hw : wf g 0 1) : Met l yL_echoIn (.codeWith yL_echoIn cL_echoIn 4 (some .int) [(0, 6, 7, 16), (0, 6, 11, 18)] :: wsL_law) { frames := 3, cells := 0, slots := 0, locals := 68 } (va_Pc [.ref (adr L 0 0 0), .int (iI p), .int (iI w)] (HS L g)) (va_Qi (fun (r9 : Int32) (u9 : St) => r9 = iI (eT g 0 (g 6 0 p 0) w) ∧ u9 = g) (fun u t => HS L u t) (Af L)) 0 0 (Af L) := by
  refine ct_mkH (by decide +kernel) (Nat.le_of_ble_eq_true rfl) ?_
  intro pp ee ss mm bel mth cx C hr hlk htab
  show V pp l ee { frames := 3, cells := 0, slots := 0, locals := 68 } ss mm ([.ref (adr L 0 0 0), .int (iI p), .int (iI w)]).toArray bel mth cx 4 L (HH L g) 0 0 _ 0 [(0, .ref (adr L 0 0 0)), (1, .int (iI p)), (2, .int (iI w))] []
  refine v_aload_n (pc := 0) C 0 rfl rfl dL_echoIn_0 ?_
  refine v_iload_n (pc := 1) C 1 rfl rfl dL_echoIn_1 ?_
  refine v_iload_n (pc := 2) C 2 rfl rfl dL_echoIn_2 ?_
  refine v_calliV (pc := 3) C cw_RL_48 rcv_0 (ct_X6_echoIn l L g p w (by first | assumption | omega | (unfold rg; omega)) (by first | assumption | omega | (unfold rg; omega)) (by first | assumption | omega | (unfold rg; omega))) ⟨Nat.le_of_ble_eq_true rfl, Nat.le_of_ble_eq_true rfl⟩ rfl (Nat.le_of_ble_eq_true rfl) ⟨Nat.le_of_ble_eq_true rfl, Nat.le_of_ble_eq_true rfl⟩ rfl dL_echoIn_3 (fun r9 u9 hP_1 => ?_)
  obtain ⟨hP_1, hP_1b⟩ := hP_1
  rw [hP_1, hP_1b]
  clear hP_1 hP_1b r9 u9
  exact v_iret (pc := 6) C hr hlk (⟨rfl, rfl⟩) dL_echoIn_6
set_option maxHeartbeats 4000000 in
set_option maxRecDepth 100000 in
theorem ct_L_ballIn (l : Launch) (L : Lay) (g : St) (t w : Int) (htt : 0 ≤ t ∧ t ≤ 99) (hww : 0 ≤ w ∧ w ≤ 2) (hw : wf g 0 1) : Met l yL_ballIn (.codeWith yL_ballIn cL_ballIn 4 (some .int) [(0, 6, 7, 18)] :: wsL_law) { frames := 4, cells := 0, slots := 0, locals := 91 } (va_Pc [.ref (adr L 0 0 0), .int (iI t), .int (iI w)] (HS L g)) (va_Qi (fun (r9 : Int32) (u9 : St) => r9 = iI (bnN g t w) ∧ u9 = (bnG g t w)) (fun u t => HS L u t) (Af L)) 0 0 (Af L) := by
  refine ct_mkH (by decide +kernel) (Nat.le_of_ble_eq_true rfl) ?_
  intro pp ee ss mm bel mth cx C hr hlk htab
  show V pp l ee { frames := 4, cells := 0, slots := 0, locals := 91 } ss mm ([.ref (adr L 0 0 0), .int (iI t), .int (iI w)]).toArray bel mth cx 4 L (HH L g) 0 0 _ 0 [(0, .ref (adr L 0 0 0)), (1, .int (iI t)), (2, .int (iI w))] []
  refine v_aload_n (pc := 0) C 0 rfl rfl dL_ballIn_0 ?_
  refine v_iload_n (pc := 1) C 1 rfl rfl dL_ballIn_1 ?_
  refine v_iload_n (pc := 2) C 2 rfl rfl dL_ballIn_2 ?_
  refine v_calliV (pc := 3) C cw_RL_45 rcv_0 (ct_X6_ballIn l L g t w (by first | assumption | omega | (unfold rg; omega)) (by first | assumption | omega | (unfold rg; omega)) (by first | assumption | omega | (unfold rg; omega))) ⟨Nat.le_of_ble_eq_true rfl, Nat.le_of_ble_eq_true rfl⟩ rfl (Nat.le_of_ble_eq_true rfl) ⟨Nat.le_of_ble_eq_true rfl, Nat.le_of_ble_eq_true rfl⟩ rfl dL_ballIn_3 (fun r9 u9 hP_1 => ?_)
  obtain ⟨hP_1, hP_1b⟩ := hP_1
  rw [hP_1, hP_1b]
  clear hP_1 hP_1b r9 u9
  exact v_iret (pc := 6) C hr hlk (⟨rfl, rfl⟩) dL_ballIn_6
set_option maxHeartbeats 4000000 in
set_option maxRecDepth 100000 in
theorem ct_L_wouldClash (l : Launch) (L : Lay) (g : St) (p w : Int) (hp : 0 ≤ p ∧ p < 4) (hww : 0 ≤ w ∧ w ≤ 1) (hw : wf g 0 1) : Met l yL_wouldClash (.codeWith yL_wouldClash cL_wouldClash 4 (some .int) [(0, 6, 7, 16), (0, 6, 11, 18)] :: wsL_law) { frames := 4, cells := 0, slots := 0, locals := 92 } (va_Pc [.ref (adr L 0 0 0), .int (iI p), .int (iI w)] (HS L g)) (va_Qi (fun (r9 : Int32) (u9 : St) => r9 = iI (if eT g 0 (g 6 0 p 0) w = eT g 0 (g 6 0 p 0) (1 - w) ∨ eDue g 0 (g 6 0 p 0) (g 1 0 0 0 + eT g 0 (g 6 0 p 0) w) then 1 else 0) ∧ u9 = g) (fun u t => HS L u t) (Af L)) 0 0 (Af L) := by
  refine ct_mkH (by decide +kernel) (Nat.le_of_ble_eq_true rfl) ?_
  intro pp ee ss mm bel mth cx C hr hlk htab
  show V pp l ee { frames := 4, cells := 0, slots := 0, locals := 92 } ss mm ([.ref (adr L 0 0 0), .int (iI p), .int (iI w)]).toArray bel mth cx 4 L (HH L g) 0 0 _ 0 [(0, .ref (adr L 0 0 0)), (1, .int (iI p)), (2, .int (iI w))] []
  refine v_aload_n (pc := 0) C 0 rfl rfl dL_wouldClash_0 ?_
  refine v_iload_n (pc := 1) C 1 rfl rfl dL_wouldClash_1 ?_
  refine v_iload_n (pc := 2) C 2 rfl rfl dL_wouldClash_2 ?_
  refine v_calliV (pc := 3) C cw_RL_51 rcv_0 (ct_X6_wouldClash l L g p w (by first | assumption | omega | (unfold rg; omega)) (by first | assumption | omega | (unfold rg; omega)) (by first | assumption | omega | (unfold rg; omega))) ⟨Nat.le_of_ble_eq_true rfl, Nat.le_of_ble_eq_true rfl⟩ rfl (Nat.le_of_ble_eq_true rfl) ⟨Nat.le_of_ble_eq_true rfl, Nat.le_of_ble_eq_true rfl⟩ rfl dL_wouldClash_3 (fun r9 u9 hP_1 => ?_)
  obtain ⟨hP_1, hP_1b⟩ := hP_1
  rw [hP_1, hP_1b]
  clear hP_1 hP_1b r9 u9
  exact v_iret (pc := 6) C hr hlk (⟨rfl, rfl⟩) dL_wouldClash_6
set_option maxHeartbeats 4000000 in
set_option maxRecDepth 100000 in
theorem ct_L_callIn (l : Launch) (L : Lay) (g : St) (p : Int) (hp : 0 ≤ p ∧ p < 4) (hw : wf g 0 1) : Met l yL_callIn (.codeWith yL_callIn cL_callIn 3 (some .int) [(0, 5, 6, 16)] :: wsL_law) { frames := 5, cells := 0, slots := 0, locals := 114 } (va_Pc [.ref (adr L 0 0 0), .int (iI p)] (HS L g)) (va_Qi (fun (r9 : Int32) (u9 : St) => r9 = iI (if eT g 0 (g 6 0 p 0) 0 = eT g 0 (g 6 0 p 0) 1 then -1 else frst (pW g 0 (g 6 0 p 0)) 61 0) ∧ u9 = g) (fun u t => HS L u t) (Af L)) 0 0 (Af L) := by
  refine ct_mkH (by decide +kernel) (Nat.le_of_ble_eq_true rfl) ?_
  intro pp ee ss mm bel mth cx C hr hlk htab
  show V pp l ee { frames := 5, cells := 0, slots := 0, locals := 114 } ss mm ([.ref (adr L 0 0 0), .int (iI p)]).toArray bel mth cx 3 L (HH L g) 0 0 _ 0 [(0, .ref (adr L 0 0 0)), (1, .int (iI p))] []
  refine v_aload_n (pc := 0) C 0 rfl rfl dL_callIn_0 ?_
  refine v_iload_n (pc := 1) C 1 rfl rfl dL_callIn_1 ?_
  refine v_calliV (pc := 2) C cw_RL_54 rcv_0 (ct_X6_callIn l L g p (by first | assumption | omega | (unfold rg; omega)) (by first | assumption | omega | (unfold rg; omega))) ⟨Nat.le_of_ble_eq_true rfl, Nat.le_of_ble_eq_true rfl⟩ rfl (Nat.le_of_ble_eq_true rfl) ⟨Nat.le_of_ble_eq_true rfl, Nat.le_of_ble_eq_true rfl⟩ rfl dL_callIn_2 (fun r9 u9 hP_1 => ?_)
  obtain ⟨hP_1, hP_1b⟩ := hP_1
  rw [hP_1, hP_1b]
  clear hP_1 hP_1b r9 u9
  exact v_iret (pc := 5) C hr hlk (⟨rfl, rfl⟩) dL_callIn_5
set_option maxHeartbeats 4000000 in
set_option maxRecDepth 100000 in
theorem ct_L_call (l : Launch) (L : Lay) (g : St) (p w : Int) (hp : 0 ≤ p ∧ p < 4) (hww : 0 ≤ w ∧ w ≤ 9) (hh : wh g) (hA : wA g) (h6 : ∀ p, 0 ≤ p → p < 4 → eOf g 0 p + 2 ≤ 6 → g 1 0 0 2 + 2 ≤ 24) : Met l yL_call (.codeWith yL_call cL_call 4 (some .int) [(0, 6, 7, 16), (0, 6, 11, 18)] :: wsL_law) { frames := 5, cells := 0, slots := 0, locals := 116 } (va_Pc [.ref (adr L 0 0 0), .int (iI p), .int (iI w)] (HS L g)) (va_Qi (fun (r9 : Int32) (u : St) => ∃ z : Int, r9 = iI z ∧ (se (svG g 0) u 0 p w z)) (fun u t => HS L u t) (Af L)) 0 0 (Af L) := by
  refine ct_mkH (by decide +kernel) (Nat.le_of_ble_eq_true rfl) ?_
  intro pp ee ss mm bel mth cx C hr hlk htab
  show V pp l ee { frames := 5, cells := 0, slots := 0, locals := 116 } ss mm ([.ref (adr L 0 0 0), .int (iI p), .int (iI w)]).toArray bel mth cx 4 L (HH L g) 0 0 _ 0 [(0, .ref (adr L 0 0 0)), (1, .int (iI p)), (2, .int (iI w))] []
  refine v_aload_n (pc := 0) C 0 rfl rfl dL_call_0 ?_
  refine v_iload_n (pc := 1) C 1 rfl rfl dL_call_1 ?_
  refine v_iload_n (pc := 2) C 2 rfl rfl dL_call_2 ?_
  refine v_calliV (pc := 3) C cw_RL_10 rcv_0 (ct_X6_call l L g p w (by first | assumption | omega | (unfold rg; omega)) (by first | assumption | omega | (unfold rg; omega)) (by first | assumption | omega | (unfold rg; omega)) (by first | assumption | omega | (unfold rg; omega)) (by first | assumption | omega | (unfold rg; omega))) ⟨Nat.le_of_ble_eq_true rfl, Nat.le_of_ble_eq_true rfl⟩ rfl (Nat.le_of_ble_eq_true rfl) ⟨Nat.le_of_ble_eq_true rfl, Nat.le_of_ble_eq_true rfl⟩ rfl dL_call_3 (fun r9 u_2 hP_1 => ?_)
  obtain ⟨z_3, rfl, hP_1⟩ := hP_1
  exact v_iret (pc := 6) C hr hlk (⟨_, rfl, hP_1⟩) dL_call_6
set_option maxHeartbeats 4000000 in
set_option maxRecDepth 100000 in
theorem ct_L_walk (l : Launch) (L : Lay) (g : St) (p b : Int) (hp : 0 ≤ p ∧ p < 4) (hb : -9 ≤ b ∧ b ≤ 9) (hh : wh g) (hA : wA g) : Met l yL_walk (.codeWith yL_walk cL_walk 4 (some .int) [(0, 6, 7, 16), (0, 6, 11, 18)] :: wsL_law) { frames := 4, cells := 0, slots := 0, locals := 86 } (va_Pc [.ref (adr L 0 0 0), .int (iI p), .int (iI b)] (HS L g)) (va_Qi (fun (r9 : Int32) (u9 : St) => r9 = iI (mvR (svG g 0) 0 p b) ∧ u9 = (mvG (svG g 0) 0 p b)) (fun u t => HS L u t) (Af L)) 0 0 (Af L) := by
  refine ct_mkH (by decide +kernel) (Nat.le_of_ble_eq_true rfl) ?_
  intro pp ee ss mm bel mth cx C hr hlk htab
  show V pp l ee { frames := 4, cells := 0, slots := 0, locals := 86 } ss mm ([.ref (adr L 0 0 0), .int (iI p), .int (iI b)]).toArray bel mth cx 4 L (HH L g) 0 0 _ 0 [(0, .ref (adr L 0 0 0)), (1, .int (iI p)), (2, .int (iI b))] []
  refine v_aload_n (pc := 0) C 0 rfl rfl dL_walk_0 ?_
  refine v_iload_n (pc := 1) C 1 rfl rfl dL_walk_1 ?_
  refine v_iload_n (pc := 2) C 2 rfl rfl dL_walk_2 ?_
  refine v_calliV (pc := 3) C cw_RL_20 rcv_0 (ct_X6_walk l L g p b (by first | assumption | omega | (unfold rg; omega)) (by first | assumption | omega | (unfold rg; omega)) (by first | assumption | omega | (unfold rg; omega)) (by first | assumption | omega | (unfold rg; omega))) ⟨Nat.le_of_ble_eq_true rfl, Nat.le_of_ble_eq_true rfl⟩ rfl (Nat.le_of_ble_eq_true rfl) ⟨Nat.le_of_ble_eq_true rfl, Nat.le_of_ble_eq_true rfl⟩ rfl dL_walk_3 (fun r9 u9 hP_1 => ?_)
  obtain ⟨hP_1, hP_1b⟩ := hP_1
  rw [hP_1, hP_1b]
  clear hP_1 hP_1b r9 u9
  exact v_iret (pc := 6) C hr hlk (⟨rfl, rfl⟩) dL_walk_6
set_option maxHeartbeats 4000000 in
set_option maxRecDepth 100000 in
theorem ct_L_throwBall (l : Launch) (L : Lay) (g : St) (a b q : Int) (ha : 0 ≤ a ∧ a ≤ g 2 0 0 0) (hb : 1 ≤ b ∧ b ≤ 9) (hq : q = 0 ∨ q = 1) (hh : wh g) (hA : wA g) : Met l yL_throwBall (.codeWith yL_throwBall cL_throwBall 5 (some .int) [(0, 7, 8, 18)] :: wsL_law) { frames := 4, cells := 0, slots := 0, locals := 88 } (va_Pc [.ref (adr L 0 0 0), .int (iI a), .int (iI b), .int (iI q)] (HS L g)) (va_Qi (fun (r9 : Int32) (u9 : St) => r9 = iI (g 3 0 0 0) ∧ u9 = (up (up (up (svG g 0) 3 0 0 0 a) 3 0 0 1 b) 3 0 0 2 q)) (fun u t => HS L u t) (Af L)) 0 0 (Af L) := by
  refine ct_mkH (by decide +kernel) (Nat.le_of_ble_eq_true rfl) ?_
  intro pp ee ss mm bel mth cx C hr hlk htab
  show V pp l ee { frames := 4, cells := 0, slots := 0, locals := 88 } ss mm ([.ref (adr L 0 0 0), .int (iI a), .int (iI b), .int (iI q)]).toArray bel mth cx 5 L (HH L g) 0 0 _ 0 [(0, .ref (adr L 0 0 0)), (1, .int (iI a)), (2, .int (iI b)), (3, .int (iI q))] []
  refine v_aload_n (pc := 0) C 0 rfl rfl dL_throwBall_0 ?_
  refine v_iload_n (pc := 1) C 1 rfl rfl dL_throwBall_1 ?_
  refine v_iload_n (pc := 2) C 2 rfl rfl dL_throwBall_2 ?_
  refine v_iload_n (pc := 3) C 3 rfl rfl dL_throwBall_3 ?_
  refine v_calliV (pc := 4) C cw_RL_57 rcv_0 (ct_X6_throwBall l L g a b q (by first | assumption | omega | (unfold rg; omega)) (by first | assumption | omega | (unfold rg; omega)) (by first | assumption | omega | (unfold rg; omega)) (by first | assumption | omega | (unfold rg; omega)) (by first | assumption | omega | (unfold rg; omega))) ⟨Nat.le_of_ble_eq_true rfl, Nat.le_of_ble_eq_true rfl⟩ rfl (Nat.le_of_ble_eq_true rfl) ⟨Nat.le_of_ble_eq_true rfl, Nat.le_of_ble_eq_true rfl⟩ rfl dL_throwBall_4 (fun r9 u9 hP_1 => ?_)
  obtain ⟨hP_1, hP_1b⟩ := hP_1
  rw [hP_1, hP_1b]
  clear hP_1 hP_1b r9 u9
  exact v_iret (pc := 7) C hr hlk (⟨rfl, rfl⟩) dL_throwBall_7
set_option maxHeartbeats 4000000 in
set_option maxRecDepth 100000 in
theorem ct_L_pass (l : Launch) (L : Lay) (g : St) (t : Int) (htt : 1 ≤ t ∧ t ≤ 99) (hcl2 : g 1 0 0 0 + t ≤ 99999) (hh : wh g) (hA : wA g) : Met l yL_pass (.codeWith yL_pass cL_pass 3 (some .int) [(0, 5, 6, 18), (0, 5, 10, 26)] :: wsL_law) { frames := 6, cells := 0, slots := 0, locals := 134 } (va_Pc [.ref (adr L 0 0 0), .int (iI t)] (HS L g)) (va_Qi (fun (r9 : Int32) (u : St) => ∃ z : Int, r9 = iI z ∧ (trs 0 t.toNat (svG g 0) u z)) (fun u t => HS L u t) (Af L)) 0 0 (Af L) := by
  refine ct_mkH (by decide +kernel) (Nat.le_of_ble_eq_true rfl) ?_
  intro pp ee ss mm bel mth cx C hr hlk htab
  show V pp l ee { frames := 6, cells := 0, slots := 0, locals := 134 } ss mm ([.ref (adr L 0 0 0), .int (iI t)]).toArray bel mth cx 3 L (HH L g) 0 0 _ 0 [(0, .ref (adr L 0 0 0)), (1, .int (iI t))] []
  refine v_aload_n (pc := 0) C 0 rfl rfl dL_pass_0 ?_
  refine v_iload_n (pc := 1) C 1 rfl rfl dL_pass_1 ?_
  refine v_calliV (pc := 2) C cw_RL_28 rcv_0 (ct_X6_pass l L g t (by first | assumption | omega | (unfold rg; omega)) (by first | assumption | omega | (unfold rg; omega)) (by first | assumption | omega | (unfold rg; omega)) (by first | assumption | omega | (unfold rg; omega))) ⟨Nat.le_of_ble_eq_true rfl, Nat.le_of_ble_eq_true rfl⟩ rfl (Nat.le_of_ble_eq_true rfl) ⟨Nat.le_of_ble_eq_true rfl, Nat.le_of_ble_eq_true rfl⟩ rfl dL_pass_2 (fun r9 u_2 hP_1 => ?_)
  obtain ⟨z_3, rfl, hP_1⟩ := hP_1
  exact v_iret (pc := 5) C hr hlk (⟨_, rfl, hP_1⟩) dL_pass_5
set_option maxHeartbeats 4000000 in
set_option maxRecDepth 100000 in
theorem ct_L_undo (l : Launch) (L : Lay) (g : St) (hh : wh g) (hA : wA g) (h8 : 0 < g 8 0 0 1) : Met l yL_undo (.codeWith yL_undo cL_undo 2 (some .int) [(0, 4, 5, 26)] :: wsL_law) { frames := 4, cells := 0, slots := 0, locals := 84 } (va_Pc [.ref (adr L 0 0 0)] (HS L g)) (va_Qi (fun (r9 : Int32) (u9 : St) => r9 = iI (g 8 0 0 1 - 1) ∧ u9 = (rsG g 0)) (fun u t => HS L u t) (Af L)) 0 0 (Af L) := by
  refine ct_mkH (by decide +kernel) (Nat.le_of_ble_eq_true rfl) ?_
  intro pp ee ss mm bel mth cx C hr hlk htab
  show V pp l ee { frames := 4, cells := 0, slots := 0, locals := 84 } ss mm ([.ref (adr L 0 0 0)]).toArray bel mth cx 2 L (HH L g) 0 0 _ 0 [(0, .ref (adr L 0 0 0))] []
  refine v_aload_n (pc := 0) C 0 rfl rfl dL_undo_0 ?_
  refine v_calliV (pc := 1) C cw_RL_32 rcv_0 (ct_X6_undo l L g (by first | assumption | omega | (unfold rg; omega)) (by first | assumption | omega | (unfold rg; omega)) (by first | assumption | omega | (unfold rg; omega))) ⟨Nat.le_of_ble_eq_true rfl, Nat.le_of_ble_eq_true rfl⟩ rfl (Nat.le_of_ble_eq_true rfl) ⟨Nat.le_of_ble_eq_true rfl, Nat.le_of_ble_eq_true rfl⟩ rfl dL_undo_1 (fun r9 u9 hP_1 => ?_)
  obtain ⟨hP_1, hP_1b⟩ := hP_1
  rw [hP_1, hP_1b]
  clear hP_1 hP_1b r9 u9
  exact v_iret (pc := 4) C hr hlk (⟨rfl, rfl⟩) dL_undo_4
set_option maxHeartbeats 4000000 in
set_option maxRecDepth 100000 in
theorem ct_L_told (l : Launch) (L : Lay) (g : St) (hw : wf g 0 1) (hct : ctr g 0) (h8 : 0 ≤ g 8 0 0 1 ∧ g 8 0 0 1 ≤ 6) (hrf : 0 ≤ g 1 0 0 1 ∧ g 1 0 0 1 ≤ 100000000) : Met l yL_told (.code yL_told cL_told 5 (some .long) :: wsL_law) { frames := 7, cells := 0, slots := 0, locals := 153 } (va_Pc [.ref (adr L 0 0 0)] (HS L g)) (va_Ql (fun (r9 : Int64) (u9 : St) => r9 = lI (tdN g) ∧ u9 = g) (fun u t => HS L u t) (Af L)) 0 0 (Af L) := by
  refine ct_mk (by decide +kernel) (Nat.le_of_ble_eq_true rfl) ?_
  intro pp ee ss mm bel mth cx C hr hlk
  show V pp l ee { frames := 7, cells := 0, slots := 0, locals := 153 } ss mm ([.ref (adr L 0 0 0)]).toArray bel mth cx 5 L (HH L g) 0 0 _ 0 [(0, .ref (adr L 0 0 0))] []
  have hC := cr_rg hw hct h8 hrf
  have hpl := hw.2.2.2.2.2.2.2.2.1 0 (by decide) (by decide)
  have ht1 := eT_in (w := 1) hw hpl
  have h4 := ct_4 hw
  refine v_ldc2 (pc := 0) (z := 43) C (by decide +kernel) u_6_13 dL_told_0 ?_
  refine v_lstore_n (pc := 3) C [(1, .long (lI 43)), (0, .ref (adr L 0 0 0))] rfl (by decide) rfl dL_told_3 ?_
  refine v_iconst (pc := 4) C dL_told_4 ?_
  refine v_istore_n (pc := 5) C [(3, .int (iI 0)), (1, .long (lI 43)), (0, .ref (adr L 0 0 0))] rfl (by decide) rfl dL_told_5 ?_
  have lb6 : ∀ (n9 : Nat) (i : Int) (v : Int), (0 ≤ i ∧ i ≤ 11) → (v = tdC g i.toNat 43) → (11 - i).toNat < n9 → V pp l ee { frames := 7, cells := 0, slots := 0, locals := 153 } ss mm ([.ref (adr L 0 0 0)]).toArray bel mth cx 5 L (HH L g) 0 0 (MQ bel (va_Ql (fun (r9 : Int64) (u9 : St) => r9 = lI (tdN g) ∧ u9 = g) (fun u t => HS L u t) (Af L)) ([.ref (adr L 0 0 0)]).toArray ss 0 0 (Af L)) 6 [(0, .ref (adr L 0 0 0)), (1, .long (lI v)), (3, .int (iI i))] [] := by
    intro n9
    induction n9 with
    | zero => intro i v hi hv hm9; exact absurd hm9 (Nat.not_lt_zero _)
    | succ n9 ih9 =>
      intro i v hi hv hm9
      have ih6 := ih9
      refine v_iload_n (pc := 6) C 2 rfl rfl dL_told_6 ?_
      refine v_bipush (pc := 7) C rfl dL_told_7 ?_
      refine v_icmp_ge (pc := 9) C 31 ⟨by (first | assumption | omega | (unfold rg; omega)), by (first | assumption | omega | (unfold rg; omega))⟩ ⟨by (first | assumption | omega | (unfold rg; omega)), by (first | assumption | omega | (unfold rg; omega))⟩ (by decide) dL_told_9 (fun h9 => ?_) (fun h9 => ?_)
      · skip
        refine v_iconst (pc := 31) C dL_told_31 ?_
        refine v_istore_n (pc := 32) C [(3, .int (iI 0)), (0, .ref (adr L 0 0 0)), (1, .long (lI v))] rfl (by decide) rfl dL_told_32 ?_
        have lb33 : ∀ (n9 : Nat) (p : Int) (v2 : Int), (0 ≤ p ∧ p ≤ 4) → (v2 = tdP g p.toNat (tdC g 11 43)) → (4 - p).toNat < n9 → V pp l ee { frames := 7, cells := 0, slots := 0, locals := 153 } ss mm ([.ref (adr L 0 0 0)]).toArray bel mth cx 5 L (HH L g) 0 0 (MQ bel (va_Ql (fun (r9 : Int64) (u9 : St) => r9 = lI (tdN g) ∧ u9 = g) (fun u t => HS L u t) (Af L)) ([.ref (adr L 0 0 0)]).toArray ss 0 0 (Af L)) 33 [(0, .ref (adr L 0 0 0)), (1, .long (lI v2)), (3, .int (iI p))] [] := by
          intro n9
          induction n9 with
          | zero => intro p v2 hp hv2 hm9; exact absurd hm9 (Nat.not_lt_zero _)
          | succ n9 ih9 =>
            intro p v2 hp hv2 hm9
            have ih33 := ih9
            refine v_iload_n (pc := 33) C 2 rfl rfl dL_told_33 ?_
            refine v_iconst (pc := 34) C dL_told_34 ?_
            refine v_icmp_ge (pc := 35) C 75 ⟨by (first | assumption | omega | (unfold rg; omega)), by (first | assumption | omega | (unfold rg; omega))⟩ ⟨by (first | assumption | omega | (unfold rg; omega)), by (first | assumption | omega | (unfold rg; omega))⟩ (by decide) dL_told_35 (fun h35 => ?_) (fun h35 => ?_)
            · skip
              refine v_iconst (pc := 75) C dL_told_75 ?_
              refine v_istore_n (pc := 76) C [(3, .int (iI 0)), (0, .ref (adr L 0 0 0)), (1, .long (lI v2))] rfl (by decide) rfl dL_told_76 ?_
              have lb77 : ∀ (n9 : Nat) (r : Int) (v4 : Int), (0 ≤ r ∧ r ≤ ctN g 4) → (v4 = tdE g r.toNat (tdP g 4 (tdC g 11 43))) → (ctN g 4 - r).toNat < n9 → V pp l ee { frames := 7, cells := 0, slots := 0, locals := 153 } ss mm ([.ref (adr L 0 0 0)]).toArray bel mth cx 5 L (HH L g) 0 0 (MQ bel (va_Ql (fun (r9 : Int64) (u9 : St) => r9 = lI (tdN g) ∧ u9 = g) (fun u t => HS L u t) (Af L)) ([.ref (adr L 0 0 0)]).toArray ss 0 0 (Af L)) 77 [(0, .ref (adr L 0 0 0)), (1, .long (lI v4)), (3, .int (iI r))] [] := by
                intro n9
                induction n9 with
                | zero => intro r v4 hr2 hv4 hm9; exact absurd hm9 (Nat.not_lt_zero _)
                | succ n9 ih9 =>
                  intro r v4 hr2 hv4 hm9
                  have ih77 := ih9
                  refine v_iload_n (pc := 77) C 2 rfl rfl dL_told_77 ?_
                  refine v_aload_n (pc := 78) C 0 rfl rfl dL_told_78 ?_
                  refine v_iconst (pc := 79) C dL_told_79 ?_
                  refine v_calliH (pc := 80) C cwh_L_count (ct_L_count l L g 4 (by first | assumption | omega | (unfold rg; omega)) (by first | assumption | omega | (unfold rg; omega))) ⟨Nat.le_of_ble_eq_true rfl, Nat.le_of_ble_eq_true rfl⟩ rfl (Nat.le_of_ble_eq_true rfl) ⟨Nat.le_of_ble_eq_true rfl, Nat.le_of_ble_eq_true rfl⟩ rfl dL_told_80 (fun r9 u9 hP_1 => ?_)
                  obtain ⟨hP_1, hP_1b⟩ := hP_1
                  rw [hP_1, hP_1b]
                  clear hP_1 hP_1b r9 u9
                  refine v_icmp_ge (pc := 83) C 123 ⟨by (first | assumption | omega | (unfold rg; omega)), by (first | assumption | omega | (unfold rg; omega))⟩ ⟨by (first | assumption | omega | (unfold rg; omega)), by (first | assumption | omega | (unfold rg; omega))⟩ (by decide) dL_told_83 (fun h83 => ?_) (fun h83 => ?_)
                  · skip
                    refine v_ldc2 (pc := 123) (z := 31) C (by decide +kernel) u_6_14 dL_told_123 ?_
                    refine v_lload_n (pc := 126) C 1 rfl rfl dL_told_126 ?_
                    refine v_lmul (pc := 127) C dL_told_127 ?_
                    refine v_aload_n (pc := 128) C 0 rfl rfl dL_told_128 ?_
                    refine v_iconst (pc := 129) C dL_told_129 ?_
                    refine v_iconst (pc := 130) C dL_told_130 ?_
                    refine v_calliH (pc := 131) C cwh_L_echoIn (ct_L_echoIn l L g 0 1 (by first | assumption | omega | (unfold rg; omega)) (by first | assumption | omega | (unfold rg; omega)) (by first | assumption | omega | (unfold rg; omega))) ⟨Nat.le_of_ble_eq_true rfl, Nat.le_of_ble_eq_true rfl⟩ rfl (Nat.le_of_ble_eq_true rfl) ⟨Nat.le_of_ble_eq_true rfl, Nat.le_of_ble_eq_true rfl⟩ rfl dL_told_131 (fun r9 u9 hP_2 => ?_)
                    obtain ⟨hP_2, hP_2b⟩ := hP_2
                    rw [hP_2, hP_2b]
                    clear hP_2 hP_2b r9 u9
                    refine v_i2l (pc := 134) C ⟨by (first | assumption | omega | (unfold rg; omega)), by (first | assumption | omega | (unfold rg; omega))⟩ dL_told_134 ?_
                    refine v_ladd (pc := 135) C dL_told_135 ?_
                    exact v_lret (pc := 136) C hr hlk (⟨congrArg lI (by unfold tdN; rw [hv4, show r = ctN g 4 by omega]), rfl⟩) dL_told_136
                  · skip
                    refine v_iconst (pc := 86) C dL_told_86 ?_
                    refine v_istore (pc := 87) C [(4, .int (iI 0)), (0, .ref (adr L 0 0 0)), (1, .long (lI v4)), (3, .int (iI r))] (by decide) rfl dL_told_87 ?_
                    have lb89 : ∀ (n9 : Nat) (w2 : Int) (v5 : Int), (0 ≤ w2 ∧ w2 ≤ 6) → (v5 = tdF g r w2.toNat v4) → (6 - w2).toNat < n9 → V pp l ee { frames := 7, cells := 0, slots := 0, locals := 153 } ss mm ([.ref (adr L 0 0 0)]).toArray bel mth cx 5 L (HH L g) 0 0 (MQ bel (va_Ql (fun (r9 : Int64) (u9 : St) => r9 = lI (tdN g) ∧ u9 = g) (fun u t => HS L u t) (Af L)) ([.ref (adr L 0 0 0)]).toArray ss 0 0 (Af L)) 89 [(0, .ref (adr L 0 0 0)), (1, .long (lI v5)), (3, .int (iI r)), (4, .int (iI w2))] [] := by
                      intro n9
                      induction n9 with
                      | zero => intro w2 v5 hw6 hv5 hm9; exact absurd hm9 (Nat.not_lt_zero _)
                      | succ n9 ih9 =>
                        intro w2 v5 hw6 hv5 hm9
                        have ih89 := ih9
                        refine v_iload (pc := 89) C 3 rfl dL_told_89 ?_
                        refine v_bipush (pc := 91) C rfl dL_told_91 ?_
                        refine v_icmp_ge (pc := 93) C 117 ⟨by (first | assumption | omega | (unfold rg; omega)), by (first | assumption | omega | (unfold rg; omega))⟩ ⟨by (first | assumption | omega | (unfold rg; omega)), by (first | assumption | omega | (unfold rg; omega))⟩ (by decide) dL_told_93 (fun h93 => ?_) (fun h93 => ?_)
                        · skip
                          refine v_iinc (pc := 117) C 2 [(3, .int (iI (r + 1))), (0, .ref (adr L 0 0 0)), (1, .long (lI v5)), (4, .int (iI w2))] rfl (by decide) rfl dL_told_117 ?_
                          refine v_goto (pc := 120) C 77 (by decide) dL_told_120 ?_
                          refine v_lsub [1, 2, 0] rfl ?_
                          exact ih77 (r + 1) v5 (by omega) (by rw [hv5, tdE_s g hr2.1, hv4, show w2 = 6 by omega]; rfl) (by omega)
                        · skip
                          refine v_ldc2 (pc := 96) (z := 31) C (by decide +kernel) u_6_14 dL_told_96 ?_
                          refine v_lload_n (pc := 99) C 1 rfl rfl dL_told_99 ?_
                          refine v_lmul (pc := 100) C dL_told_100 ?_
                          refine v_aload_n (pc := 101) C 0 rfl rfl dL_told_101 ?_
                          refine v_iload_n (pc := 102) C 2 rfl rfl dL_told_102 ?_
                          refine v_iload (pc := 103) C 3 rfl dL_told_103 ?_
                          refine v_calliH (pc := 105) C cwh_L_echoOf (ct_L_echoOf l L g r w2 (by first | assumption | omega | (unfold rg; omega)) (by first | assumption | omega | (unfold rg; omega)) (by first | assumption | omega | (unfold rg; omega)) (by first | assumption | omega | (unfold rg; omega))) ⟨Nat.le_of_ble_eq_true rfl, Nat.le_of_ble_eq_true rfl⟩ rfl (Nat.le_of_ble_eq_true rfl) ⟨Nat.le_of_ble_eq_true rfl, Nat.le_of_ble_eq_true rfl⟩ rfl dL_told_105 (fun r9 u9 hP_3 => ?_)
                          obtain ⟨hP_3, hP_3b⟩ := hP_3
                          rw [hP_3, hP_3b]
                          clear hP_3 hP_3b r9 u9
                          have hew := ecN_rg (r := r) (w := w2) hw (by decide)
                          unfold rg at hew
                          refine v_i2l (pc := 108) C ⟨by (first | assumption | omega | (unfold rg; omega)), by (first | assumption | omega | (unfold rg; omega))⟩ dL_told_108 ?_
                          refine v_ladd (pc := 109) C dL_told_109 ?_
                          refine v_lstore_n (pc := 110) C [(1, .long (lI ((31 * v5) + (ecN g 0 r w2)))), (0, .ref (adr L 0 0 0)), (3, .int (iI r)), (4, .int (iI w2))] rfl (by decide) rfl dL_told_110 ?_
                          refine v_iinc (pc := 111) C 3 [(4, .int (iI (w2 + 1))), (1, .long (lI ((31 * v5) + (ecN g 0 r w2)))), (0, .ref (adr L 0 0 0)), (3, .int (iI r))] rfl (by decide) rfl dL_told_111 ?_
                          refine v_goto (pc := 114) C 89 (by decide) dL_told_114 ?_
                          refine v_lsub [2, 1, 3, 0] rfl ?_
                          exact ih89 (w2 + 1) ((31 * v5) + (ecN g 0 r w2)) (by omega) (by rw [hv5, td_s (G := tdF g r) (F := ecN g 0 r) (fun _ _ => rfl) hw6.1]) (by omega)
                    refine v_lsub [1, 2, 3, 0] rfl ?_
                    exact lb89 _ 0 v4 (by omega) (by rfl) (Nat.lt_succ_self _)
              refine v_lsub [1, 2, 0] rfl ?_
              exact lb77 _ 0 v2 (by omega) (by rw [hv2, show p = 4 by omega]; rfl) (Nat.lt_succ_self _)
            · skip
              refine v_iconst (pc := 38) C dL_told_38 ?_
              refine v_istore (pc := 39) C [(4, .int (iI 0)), (0, .ref (adr L 0 0 0)), (1, .long (lI v2)), (3, .int (iI p))] (by decide) rfl dL_told_39 ?_
              have lb41 : ∀ (n9 : Nat) (w : Int) (v3 : Int), (0 ≤ w ∧ w ≤ 7) → (v3 = tdQ g p w.toNat v2) → (7 - w).toNat < n9 → V pp l ee { frames := 7, cells := 0, slots := 0, locals := 153 } ss mm ([.ref (adr L 0 0 0)]).toArray bel mth cx 5 L (HH L g) 0 0 (MQ bel (va_Ql (fun (r9 : Int64) (u9 : St) => r9 = lI (tdN g) ∧ u9 = g) (fun u t => HS L u t) (Af L)) ([.ref (adr L 0 0 0)]).toArray ss 0 0 (Af L)) 41 [(0, .ref (adr L 0 0 0)), (1, .long (lI v3)), (3, .int (iI p)), (4, .int (iI w))] [] := by
                intro n9
                induction n9 with
                | zero => intro w v3 hw7 hv3 hm9; exact absurd hm9 (Nat.not_lt_zero _)
                | succ n9 ih9 =>
                  intro w v3 hw7 hv3 hm9
                  have ih41 := ih9
                  refine v_iload (pc := 41) C 3 rfl dL_told_41 ?_
                  refine v_bipush (pc := 43) C rfl dL_told_43 ?_
                  refine v_icmp_ge (pc := 45) C 69 ⟨by (first | assumption | omega | (unfold rg; omega)), by (first | assumption | omega | (unfold rg; omega))⟩ ⟨by (first | assumption | omega | (unfold rg; omega)), by (first | assumption | omega | (unfold rg; omega))⟩ (by decide) dL_told_45 (fun h45 => ?_) (fun h45 => ?_)
                  · skip
                    refine v_iinc (pc := 69) C 2 [(3, .int (iI (p + 1))), (0, .ref (adr L 0 0 0)), (1, .long (lI v3)), (4, .int (iI w))] rfl (by decide) rfl dL_told_69 ?_
                    refine v_goto (pc := 72) C 33 (by decide) dL_told_72 ?_
                    refine v_lsub [1, 2, 0] rfl ?_
                    exact ih33 (p + 1) v3 (by omega) (by rw [hv3, tdP_s g hp.1, hv2, show w = 7 by omega]; rfl) (by omega)
                  · skip
                    refine v_ldc2 (pc := 48) (z := 31) C (by decide +kernel) u_6_14 dL_told_48 ?_
                    refine v_lload_n (pc := 51) C 1 rfl rfl dL_told_51 ?_
                    refine v_lmul (pc := 52) C dL_told_52 ?_
                    refine v_aload_n (pc := 53) C 0 rfl rfl dL_told_53 ?_
                    refine v_iload_n (pc := 54) C 2 rfl rfl dL_told_54 ?_
                    refine v_iload (pc := 55) C 3 rfl dL_told_55 ?_
                    refine v_calliH (pc := 57) C cwh_L_playerOf (ct_L_playerOf l L g p w (by first | assumption | omega | (unfold rg; omega)) (by first | assumption | omega | (unfold rg; omega)) (by first | assumption | omega | (unfold rg; omega))) ⟨Nat.le_of_ble_eq_true rfl, Nat.le_of_ble_eq_true rfl⟩ rfl (Nat.le_of_ble_eq_true rfl) ⟨Nat.le_of_ble_eq_true rfl, Nat.le_of_ble_eq_true rfl⟩ rfl dL_told_57 (fun r9 u9 hP_4 => ?_)
                    obtain ⟨hP_4, hP_4b⟩ := hP_4
                    rw [hP_4, hP_4b]
                    clear hP_4 hP_4b r9 u9
                    have hpw := plN_in (w := w) hw hct (p := p) ⟨by omega, by omega⟩ ⟨by omega, by omega⟩
                    refine v_i2l (pc := 60) C ⟨by (first | assumption | omega | (unfold rg; omega)), by (first | assumption | omega | (unfold rg; omega))⟩ dL_told_60 ?_
                    refine v_ladd (pc := 61) C dL_told_61 ?_
                    refine v_lstore_n (pc := 62) C [(1, .long (lI ((31 * v3) + (plN g 0 p w)))), (0, .ref (adr L 0 0 0)), (3, .int (iI p)), (4, .int (iI w))] rfl (by decide) rfl dL_told_62 ?_
                    refine v_iinc (pc := 63) C 3 [(4, .int (iI (w + 1))), (1, .long (lI ((31 * v3) + (plN g 0 p w)))), (0, .ref (adr L 0 0 0)), (3, .int (iI p))] rfl (by decide) rfl dL_told_63 ?_
                    refine v_goto (pc := 66) C 41 (by decide) dL_told_66 ?_
                    refine v_lsub [2, 1, 3, 0] rfl ?_
                    exact ih41 (w + 1) ((31 * v3) + (plN g 0 p w)) (by omega) (by rw [hv3, td_s (G := tdQ g p) (F := plN g 0 p) (fun _ _ => rfl) hw7.1]) (by omega)
              refine v_lsub [1, 2, 3, 0] rfl ?_
              exact lb41 _ 0 v2 (by omega) (by rfl) (Nat.lt_succ_self _)
        refine v_lsub [1, 2, 0] rfl ?_
        exact lb33 _ 0 v (by omega) (by rw [hv, show i = 11 by omega]; rfl) (Nat.lt_succ_self _)
      · skip
        refine v_ldc2 (pc := 12) (z := 31) C (by decide +kernel) u_6_14 dL_told_12 ?_
        refine v_lload_n (pc := 15) C 1 rfl rfl dL_told_15 ?_
        refine v_lmul (pc := 16) C dL_told_16 ?_
        refine v_aload_n (pc := 17) C 0 rfl rfl dL_told_17 ?_
        refine v_iload_n (pc := 18) C 2 rfl rfl dL_told_18 ?_
        refine v_calliH (pc := 19) C cwh_L_count (ct_L_count l L g i (by first | assumption | omega | (unfold rg; omega)) (by first | assumption | omega | (unfold rg; omega))) ⟨Nat.le_of_ble_eq_true rfl, Nat.le_of_ble_eq_true rfl⟩ rfl (Nat.le_of_ble_eq_true rfl) ⟨Nat.le_of_ble_eq_true rfl, Nat.le_of_ble_eq_true rfl⟩ rfl dL_told_19 (fun r9 u9 hP_5 => ?_)
        obtain ⟨hP_5, hP_5b⟩ := hP_5
        rw [hP_5, hP_5b]
        clear hP_5 hP_5b r9 u9
        have hcw := hC i
        unfold rg at hcw
        refine v_i2l (pc := 22) C ⟨by (first | assumption | omega | (unfold rg; omega)), by (first | assumption | omega | (unfold rg; omega))⟩ dL_told_22 ?_
        refine v_ladd (pc := 23) C dL_told_23 ?_
        refine v_lstore_n (pc := 24) C [(1, .long (lI ((31 * v) + (ctN g i)))), (0, .ref (adr L 0 0 0)), (3, .int (iI i))] rfl (by decide) rfl dL_told_24 ?_
        refine v_iinc (pc := 25) C 2 [(3, .int (iI (i + 1))), (1, .long (lI ((31 * v) + (ctN g i)))), (0, .ref (adr L 0 0 0))] rfl (by decide) rfl dL_told_25 ?_
        refine v_goto (pc := 28) C 6 (by decide) dL_told_28 ?_
        refine v_lsub [2, 1, 0] rfl ?_
        exact ih6 (i + 1) ((31 * v) + (ctN g i)) (by omega) (by rw [hv, td_s (G := tdC g) (F := ctN g) (fun _ _ => rfl) hi.1]) (by omega)
  refine v_lsub [2, 1, 0] rfl ?_
  exact lb6 _ 0 43 (by omega) (by rfl) (Nat.lt_succ_self _)
