/-! the reference: its public looks, and its buffer -/
theorem wm_t0 {g : St} {d : Int} (h : wm (g 15 0 0) d) : wm (t0 g 15 0 0) d := by rw [t0_f (by decide)]; exact h
theorem ctM_t0 {g : St} (h : ctM g) : ctM (t0 g) := by unfold ctM; rw [t0_f (by decide)]; exact h

def wb (g : St) : Prop := (0 ≤ g 14 0 0 7 ∧ g 14 0 0 7 ≤ 60) ∧ (0 ≤ g 14 0 0 8 ∧ g 14 0 0 8 ≤ 100) ∧ ∀ i, 0 ≤ i → i < 60 → 0 ≤ g 19 0 0 i ∧ g 19 0 0 i ≤ 126
def nx (g : St) : Int := if g 14 0 0 8 < g 14 0 0 7 then g 19 0 0 (g 14 0 0 8) else 0
theorem nx_in {g : St} (h : wb g) : 0 ≤ nx g ∧ nx g ≤ 126 := by
  obtain ⟨h1, h2, h3⟩ := h
  unfold nx; split
  · exact h3 _ (by omega) (by omega)
  · omega
theorem nx_at {g : St} (h : nx g ≠ 0) : g 14 0 0 8 < g 14 0 0 7 := by
  unfold nx at h; split at h
  · assumption
  · exact absurd rfl h
def atS (g : St) : St := up g 14 0 0 8 (g 14 0 0 8 + 1)
def dgR (g : St) (a b : Int) : Int := if a ≤ nx g - 48 ∧ nx g - 48 ≤ b then nx g - 48 else -1
def dgG (g : St) (a b : Int) : St := if a ≤ nx g - 48 ∧ nx g - 48 ≤ b then atS g else g
def tkG (g : St) (c : Int) : St := if nx g = c then atS g else g
theorem wb_ad {g : St} (h : wb g) (h2 : nx g ≠ 0) : wb (atS g) := by
  have ha := nx_at h2
  obtain ⟨h1, h2, h3⟩ := h
  refine ⟨by simp [atS, up]; omega, by simp [atS, up]; omega, fun i h0 h6 => ?_⟩
  have := h3 i h0 h6
  simpa [atS, up] using this
theorem wb_dg {g : St} {a b : Int} (h : wb g) (ha : 0 ≤ a) : wb (dgG g a b) := by
  unfold dgG; split
  · exact wb_ad h (by omega)
  · exact h
theorem wb_tk {g : St} {c : Int} (h : wb g) (hc : 0 < c) : wb (tkG g c) := by
  unfold tkG; split
  · exact wb_ad h (by omega)
  · exact h
theorem wb_up {g : St} {q v : Int} (h : wb g) (h7 : q ≠ 7) (h8 : q ≠ 8) : wb (up g 14 0 0 q v) := by
  unfold wb at *
  rw [up_i (Ne.symm h7), up_i (Ne.symm h8), up_ff (by decide)]
  exact h
theorem dgR_in {g : St} {a b : Int} (ha : 0 ≤ a) (hb : b ≤ 9) : -1 ≤ dgR g a b ∧ dgR g a b ≤ 9 := by
  unfold dgR; split <;> omega

def fsB (g : St) (a b : Int) : St := up (dgG g a b) 14 0 0 10 (dgR g a b)
def snB (g : St) (a b s : Int) : St := up (dgG g a b) 14 0 0 11 (s * dgR g a b)
def rcG (g : St) : St := if dgR g 0 3 = -1 then fsB g 0 3 else if nx (fsB g 0 3) = 61 then snB (tkG (fsB g 0 3) 61) 0 9 1 else fsB g 0 3
def rcR (g : St) : Int := if dgR g 0 3 = -1 then 0 else if nx (fsB g 0 3) = 61 then (if dgR (tkG (fsB g 0 3) 61) 0 9 = -1 then 0 else 1) else 0
def rwG (g : St) : St := if dgR g 0 3 = -1 then fsB g 0 3 else if nx (fsB g 0 3) = 43 then snB (tkG (fsB g 0 3) 43) 1 9 1 else if nx (fsB g 0 3) = 45 then snB (tkG (fsB g 0 3) 45) 1 9 (-1) else fsB g 0 3
def rwR (g : St) : Int := if dgR g 0 3 = -1 then 0 else if nx (fsB g 0 3) = 43 then (if dgR (tkG (fsB g 0 3) 43) 1 9 = -1 then 0 else 1) else if nx (fsB g 0 3) = 45 then (if dgR (tkG (fsB g 0 3) 45) 1 9 = -1 then 0 else 1) else 0
def rtG (g : St) : St := if dgR g 1 9 = -1 then up (fsB g 1 9) 14 0 0 10 (dgR g 1 9) else if dgR (fsB g 1 9) 0 9 = -1 then up (dgG (fsB g 1 9) 0 9) 14 0 0 10 (dgR g 1 9) else up (dgG (fsB g 1 9) 0 9) 14 0 0 10 (10 * dgR g 1 9 + dgR (fsB g 1 9) 0 9)
def rtR (g : St) : Int := if dgR g 1 9 = -1 then 0 else 1
theorem wb_fsB {g : St} {a b : Int} (h : wb g) (ha : 0 ≤ a) : wb (fsB g a b) := wb_up (wb_dg h ha) (by decide) (by decide)
theorem tkG_no {g : St} {c : Int} (h : nx g ≠ c) : tkG g c = g := if_neg h
theorem dg_10 (g : St) (a b v : Int) : dgG (up g 14 0 0 10 v) a b 14 0 0 10 = v := by
  unfold dgG atS; split
  · rw [up_i (by decide), up_s]
  · rw [up_s]

theorem cw_RX7_40 : CW RX7 40 RX7 yX7_fails cX7_fails 2 (some .int) 1 := ⟨u_8_17, u_8_18, u_8_19, u_1_5, u_8_20, by decide +kernel⟩
theorem cw_RX7_91 : CWs RX7 91 yX7_isPlayer cX7_isPlayer 1 (some .boolean) 1 := ⟨u_8_11, u_8_12, u_1_5, u_8_13, by decide +kernel⟩
theorem cw_RX7_114 : CW RX7 114 RX7 yX7_next cX7_next 1 (some .int) 0 := ⟨u_19_14, u_19_15, u_19_16, u_1_5, u_19_17, by decide +kernel⟩
theorem cw_RX7_117 : CW RX7 117 RX7 yX7_digit cX7_digit 4 (some .int) 2 := ⟨u_20_0, u_20_1, u_20_2, u_1_5, u_20_3, by decide +kernel⟩
theorem cw_RX7_123 : CW RX7 123 RX7 yX7_takes cX7_takes 3 (some .boolean) 1 := ⟨u_20_4, u_20_5, u_20_6, u_1_5, u_20_7, by decide +kernel⟩
theorem cw_RX7_151 : CW RX7 151 RX7 yX7_tellsPlayer cX7_tellsPlayer 3 (some .int) 2 := ⟨u_24_20, u_24_21, u_24_22, u_1_5, u_24_23, by decide +kernel⟩
theorem cw_RX7_157 : CW RX7 157 RX7 yX7_tellsEcho cX7_tellsEcho 4 (some .int) 2 := ⟨u_25_15, u_25_16, u_25_17, u_1_5, u_25_18, by decide +kernel⟩
theorem cw_RX7_163 : CW RX7 163 RX7 yX7_tellsCount cX7_tellsCount 2 (some .int) 1 := ⟨u_27_4, u_27_5, u_27_6, u_1_5, u_27_7, by decide +kernel⟩
theorem cw_RX7_169 : CW RX7 169 RX7 yX7_tellsBall cX7_tellsBall 4 (some .int) 2 := ⟨u_28_21, u_28_22, u_28_23, u_1_5, u_29_0, by decide +kernel⟩
theorem cw_RX7_181 : CW RX7 181 RX7 yX7_bestWait cX7_bestWait 3 (some .int) 1 := ⟨u_31_18, u_31_19, u_31_20, u_1_5, u_31_21, by decide +kernel⟩
theorem cw_RX7_184 : CW RX7 184 RX7 yX7_tellsQuiet cX7_tellsQuiet 3 (some .int) 0 := ⟨u_32_14, u_32_15, u_32_16, u_1_5, u_32_17, by decide +kernel⟩
theorem cw_RX7_187 : CW RX7 187 RX7 yX7_tellsBest cX7_tellsBest 5 (some .int) 0 := ⟨u_33_10, u_33_11, u_33_12, u_1_5, u_33_13, by decide +kernel⟩
set_option maxHeartbeats 4000000 in
set_option maxRecDepth 100000 in
theorem ct_X7_playerOf (l : Launch) (L : Lay) (g : St) (d p w : Int) (hm : wm (g 15 0 0) d) (hd : 0 ≤ d ∧ d ≤ 1) (hrp : rg p) (hrw : rg w) : Met l yX7_playerOf (.code yX7_playerOf cX7_playerOf 3 (some .int) :: wsL_law) { frames := 3, cells := 0, slots := 0, locals := 67 } (va_Pc [.ref (adr L 14 0 0), .int (iI p), .int (iI w)] (HS L g)) (va_Qi (fun (r9 : Int32) (u : St) => ∃ z : Int, r9 = iI z ∧ ((¬ (0 ≤ p ∧ p ≤ 3) ∧ u = er g 1 ∧ z = 0) ∨ ((0 ≤ p ∧ p ≤ 3) ∧ ¬ (0 ≤ w ∧ w ≤ 6) ∧ u = er g 2 ∧ z = 0) ∨ ((0 ≤ p ∧ p ≤ 3) ∧ (0 ≤ w ∧ w ≤ 6) ∧ u = t0 g ∧ z = mpl (t0 g) p w))) (fun u t => HS L u t) (Af L)) 0 0 (Af L) := by
  refine ct_mk (by decide +kernel) (Nat.le_of_ble_eq_true rfl) ?_
  intro pp ee ss mm bel mth cx C hr hlk
  show V pp l ee { frames := 3, cells := 0, slots := 0, locals := 67 } ss mm ([.ref (adr L 14 0 0), .int (iI p), .int (iI w)]).toArray bel mth cx 3 L (HH L g) 0 0 _ 0 [(0, .ref (adr L 14 0 0)), (1, .int (iI p)), (2, .int (iI w))] []
  have hm0 := wm_t0 hm
  refine v_aload_n (pc := 0) C 0 rfl rfl dX7_playerOf_0 ?_
  refine v_iconst (pc := 1) C dX7_playerOf_1 ?_
  refine pt_14_0 (pc := 2) C u_8_10 dX7_playerOf_2 ?_
  refine v_iload_n (pc := 5) C 1 rfl rfl dX7_playerOf_5 ?_
  refine v_calliS (pc := 6) C cw_RX7_91 (ct_X7_isPlayer l L (up g 14 0 0 0 0) p (by first | assumption | exact hm0 | omega | (unfold rg; omega) | (simp [up] <;> omega))) ⟨Nat.le_of_ble_eq_true rfl, Nat.le_of_ble_eq_true rfl⟩ rfl (Nat.le_of_ble_eq_true rfl) ⟨Nat.le_of_ble_eq_true rfl, Nat.le_of_ble_eq_true rfl⟩ rfl dX7_playerOf_6 (fun r9 u9 hP_1 => ?_)
  obtain ⟨hP_1, hP_1b⟩ := hP_1
  rw [hP_1, hP_1b]
  clear hP_1 hP_1b r9 u9
  refine v_if_ne (pc := 9) C 18 z1_rg (by decide) dX7_playerOf_9 (fun h9 => ?_) (fun h9 => ?_)
  · skip
    have h9c := z1_net h9
    refine v_iload_n (pc := 18) C 2 rfl rfl dX7_playerOf_18 ?_
    refine v_iconst (pc := 19) C dX7_playerOf_19 ?_
    refine v_bipush (pc := 20) C rfl dX7_playerOf_20 ?_
    refine v_calliS (pc := 22) C cw_RX7_29 (ct_X7_within l L (up g 14 0 0 0 0) w 0 6 (by first | assumption | exact hm0 | omega | (unfold rg; omega) | (simp [up] <;> omega)) (by first | assumption | exact hm0 | omega | (unfold rg; omega) | (simp [up] <;> omega)) (by first | assumption | exact hm0 | omega | (unfold rg; omega) | (simp [up] <;> omega))) ⟨Nat.le_of_ble_eq_true rfl, Nat.le_of_ble_eq_true rfl⟩ rfl (Nat.le_of_ble_eq_true rfl) ⟨Nat.le_of_ble_eq_true rfl, Nat.le_of_ble_eq_true rfl⟩ rfl dX7_playerOf_22 (fun r9 u9 hP_2 => ?_)
    obtain ⟨hP_2, hP_2b⟩ := hP_2
    rw [hP_2, hP_2b]
    clear hP_2 hP_2b r9 u9
    refine v_if_eq (pc := 25) C 37 z1_rg (by decide) dX7_playerOf_25 (fun h25 => ?_) (fun h25 => ?_)
    · skip
      have h25c := z1_eqt h25
      refine v_aload_n (pc := 37) C 0 rfl rfl dX7_playerOf_37 ?_
      refine v_iconst (pc := 38) C dX7_playerOf_38 ?_
      refine v_calliV (pc := 39) C cw_RX7_40 rcv_14 (ct_X7_fails l L (up g 14 0 0 0 0) 2 ) ⟨Nat.le_of_ble_eq_true rfl, Nat.le_of_ble_eq_true rfl⟩ rfl (Nat.le_of_ble_eq_true rfl) ⟨Nat.le_of_ble_eq_true rfl, Nat.le_of_ble_eq_true rfl⟩ rfl dX7_playerOf_39 (fun r9 u9 hP_3 => ?_)
      obtain ⟨hP_3, hP_3b⟩ := hP_3
      rw [hP_3, hP_3b]
      clear hP_3 hP_3b r9 u9
      exact v_iret (pc := 42) C hr hlk (by first | exact ⟨_, rfl, Or.inl ⟨by assumption, rfl, rfl⟩⟩ | exact ⟨_, rfl, Or.inr (Or.inl ⟨by assumption, by assumption, rfl, rfl⟩)⟩ | exact ⟨_, rfl, Or.inr (Or.inr ⟨by assumption, by assumption, rfl, rfl⟩)⟩ | exact ⟨_, rfl, Or.inr ⟨by assumption, rfl, rfl⟩⟩) dX7_playerOf_42
    · skip
      have h25c := z1_eqf h25
      refine v_aload_n (pc := 28) C 0 rfl rfl dX7_playerOf_28 ?_
      refine v_iload_n (pc := 29) C 1 rfl rfl dX7_playerOf_29 ?_
      refine v_iload_n (pc := 30) C 2 rfl rfl dX7_playerOf_30 ?_
      refine v_calliV (pc := 31) C cw_RX7_151 rcv_14 (ct_X7_tellsPlayer l L (up g 14 0 0 0 0) d p w (by first | assumption | exact hm0 | omega | (unfold rg; omega) | (simp [up] <;> omega)) (by first | assumption | exact hm0 | omega | (unfold rg; omega) | (simp [up] <;> omega)) (by first | assumption | exact hm0 | omega | (unfold rg; omega) | (simp [up] <;> omega)) (by first | assumption | exact hm0 | omega | (unfold rg; omega) | (simp [up] <;> omega))) ⟨Nat.le_of_ble_eq_true rfl, Nat.le_of_ble_eq_true rfl⟩ rfl (Nat.le_of_ble_eq_true rfl) ⟨Nat.le_of_ble_eq_true rfl, Nat.le_of_ble_eq_true rfl⟩ rfl dX7_playerOf_31 (fun r9 u9 hP_4 => ?_)
      obtain ⟨hP_4, hP_4b⟩ := hP_4
      rw [hP_4, hP_4b]
      clear hP_4 hP_4b r9 u9
      refine v_goto (pc := 34) C 42 (by decide) dX7_playerOf_34 ?_
      exact v_iret (pc := 42) C hr hlk (by first | exact ⟨_, rfl, Or.inl ⟨by assumption, rfl, rfl⟩⟩ | exact ⟨_, rfl, Or.inr (Or.inl ⟨by assumption, by assumption, rfl, rfl⟩)⟩ | exact ⟨_, rfl, Or.inr (Or.inr ⟨by assumption, by assumption, rfl, rfl⟩)⟩ | exact ⟨_, rfl, Or.inr ⟨by assumption, rfl, rfl⟩⟩) dX7_playerOf_42
  · skip
    have h9c := z1_nef h9
    refine v_aload_n (pc := 12) C 0 rfl rfl dX7_playerOf_12 ?_
    refine v_iconst (pc := 13) C dX7_playerOf_13 ?_
    refine v_calliV (pc := 14) C cw_RX7_40 rcv_14 (ct_X7_fails l L (up g 14 0 0 0 0) 1 ) ⟨Nat.le_of_ble_eq_true rfl, Nat.le_of_ble_eq_true rfl⟩ rfl (Nat.le_of_ble_eq_true rfl) ⟨Nat.le_of_ble_eq_true rfl, Nat.le_of_ble_eq_true rfl⟩ rfl dX7_playerOf_14 (fun r9 u9 hP_5 => ?_)
    obtain ⟨hP_5, hP_5b⟩ := hP_5
    rw [hP_5, hP_5b]
    clear hP_5 hP_5b r9 u9
    exact v_iret (pc := 17) C hr hlk (by first | exact ⟨_, rfl, Or.inl ⟨by assumption, rfl, rfl⟩⟩ | exact ⟨_, rfl, Or.inr (Or.inl ⟨by assumption, by assumption, rfl, rfl⟩)⟩ | exact ⟨_, rfl, Or.inr (Or.inr ⟨by assumption, by assumption, rfl, rfl⟩)⟩ | exact ⟨_, rfl, Or.inr ⟨by assumption, rfl, rfl⟩⟩) dX7_playerOf_17
set_option maxHeartbeats 4000000 in
set_option maxRecDepth 100000 in
theorem ct_X7_count (l : Launch) (L : Lay) (g : St) (w : Int) (hrw : rg w) : Met l yX7_count (.code yX7_count cX7_count 2 (some .int) :: wsL_law) { frames := 3, cells := 0, slots := 0, locals := 66 } (va_Pc [.ref (adr L 14 0 0), .int (iI w)] (HS L g)) (va_Qi (fun (r9 : Int32) (u : St) => ∃ z : Int, r9 = iI z ∧ ((¬ (0 ≤ w ∧ w ≤ 11) ∧ u = er g 1 ∧ z = 0) ∨ ((0 ≤ w ∧ w ≤ 11) ∧ u = t0 g ∧ z = mCt (t0 g) w))) (fun u t => HS L u t) (Af L)) 0 0 (Af L) := by
  refine ct_mk (by decide +kernel) (Nat.le_of_ble_eq_true rfl) ?_
  intro pp ee ss mm bel mth cx C hr hlk
  show V pp l ee { frames := 3, cells := 0, slots := 0, locals := 66 } ss mm ([.ref (adr L 14 0 0), .int (iI w)]).toArray bel mth cx 2 L (HH L g) 0 0 _ 0 [(0, .ref (adr L 14 0 0)), (1, .int (iI w))] []
  refine v_aload_n (pc := 0) C 0 rfl rfl dX7_count_0 ?_
  refine v_iconst (pc := 1) C dX7_count_1 ?_
  refine pt_14_0 (pc := 2) C u_8_10 dX7_count_2 ?_
  refine v_iload_n (pc := 5) C 1 rfl rfl dX7_count_5 ?_
  refine v_iconst (pc := 6) C dX7_count_6 ?_
  refine v_bipush (pc := 7) C rfl dX7_count_7 ?_
  refine v_calliS (pc := 9) C cw_RX7_29 (ct_X7_within l L (up g 14 0 0 0 0) w 0 11 (by first | assumption | exact hm0 | omega | (unfold rg; omega) | (simp [up] <;> omega)) (by first | assumption | exact hm0 | omega | (unfold rg; omega) | (simp [up] <;> omega)) (by first | assumption | exact hm0 | omega | (unfold rg; omega) | (simp [up] <;> omega))) ⟨Nat.le_of_ble_eq_true rfl, Nat.le_of_ble_eq_true rfl⟩ rfl (Nat.le_of_ble_eq_true rfl) ⟨Nat.le_of_ble_eq_true rfl, Nat.le_of_ble_eq_true rfl⟩ rfl dX7_count_9 (fun r9 u9 hP_1 => ?_)
  obtain ⟨hP_1, hP_1b⟩ := hP_1
  rw [hP_1, hP_1b]
  clear hP_1 hP_1b r9 u9
  refine v_if_eq (pc := 12) C 23 z1_rg (by decide) dX7_count_12 (fun h12 => ?_) (fun h12 => ?_)
  · skip
    have h12c := z1_eqt h12
    refine v_aload_n (pc := 23) C 0 rfl rfl dX7_count_23 ?_
    refine v_iconst (pc := 24) C dX7_count_24 ?_
    refine v_calliV (pc := 25) C cw_RX7_40 rcv_14 (ct_X7_fails l L (up g 14 0 0 0 0) 1 ) ⟨Nat.le_of_ble_eq_true rfl, Nat.le_of_ble_eq_true rfl⟩ rfl (Nat.le_of_ble_eq_true rfl) ⟨Nat.le_of_ble_eq_true rfl, Nat.le_of_ble_eq_true rfl⟩ rfl dX7_count_25 (fun r9 u9 hP_2 => ?_)
    obtain ⟨hP_2, hP_2b⟩ := hP_2
    rw [hP_2, hP_2b]
    clear hP_2 hP_2b r9 u9
    exact v_iret (pc := 28) C hr hlk (by first | exact ⟨_, rfl, Or.inl ⟨by assumption, rfl, rfl⟩⟩ | exact ⟨_, rfl, Or.inr (Or.inl ⟨by assumption, by assumption, rfl, rfl⟩)⟩ | exact ⟨_, rfl, Or.inr (Or.inr ⟨by assumption, by assumption, rfl, rfl⟩)⟩ | exact ⟨_, rfl, Or.inr ⟨by assumption, rfl, rfl⟩⟩) dX7_count_28
  · skip
    have h12c := z1_eqf h12
    refine v_aload_n (pc := 15) C 0 rfl rfl dX7_count_15 ?_
    refine v_iload_n (pc := 16) C 1 rfl rfl dX7_count_16 ?_
    refine v_calliV (pc := 17) C cw_RX7_163 rcv_14 (ct_X7_tellsCount l L (up g 14 0 0 0 0) w (by first | assumption | exact hm0 | omega | (unfold rg; omega) | (simp [up] <;> omega))) ⟨Nat.le_of_ble_eq_true rfl, Nat.le_of_ble_eq_true rfl⟩ rfl (Nat.le_of_ble_eq_true rfl) ⟨Nat.le_of_ble_eq_true rfl, Nat.le_of_ble_eq_true rfl⟩ rfl dX7_count_17 (fun r9 u9 hP_3 => ?_)
    obtain ⟨hP_3, hP_3b⟩ := hP_3
    rw [hP_3, hP_3b]
    clear hP_3 hP_3b r9 u9
    refine v_goto (pc := 20) C 28 (by decide) dX7_count_20 ?_
    exact v_iret (pc := 28) C hr hlk (by first | exact ⟨_, rfl, Or.inl ⟨by assumption, rfl, rfl⟩⟩ | exact ⟨_, rfl, Or.inr (Or.inl ⟨by assumption, by assumption, rfl, rfl⟩)⟩ | exact ⟨_, rfl, Or.inr (Or.inr ⟨by assumption, by assumption, rfl, rfl⟩)⟩ | exact ⟨_, rfl, Or.inr ⟨by assumption, rfl, rfl⟩⟩) dX7_count_28
set_option maxHeartbeats 4000000 in
set_option maxRecDepth 100000 in
theorem ct_X7_setting (l : Launch) (L : Lay) (g : St) (w : Int) (hrw : rg w) : Met l yX7_setting (.code yX7_setting cX7_setting 2 (some .int) :: wsL_law) { frames := 1, cells := 0, slots := 0, locals := 22 } (va_Pc [.ref (adr L 14 0 0), .int (iI w)] (HS L g)) (va_Qi (fun (r9 : Int32) (u : St) => ∃ z : Int, r9 = iI z ∧ ((¬ (0 ≤ w ∧ w ≤ 2) ∧ u = er g 1 ∧ z = 0) ∨ ((0 ≤ w ∧ w ≤ 2) ∧ u = t0 g ∧ z = g 15 0 0 w))) (fun u t => HS L u t) (Af L)) 0 0 (Af L) := by
  refine ct_mk (by decide +kernel) (Nat.le_of_ble_eq_true rfl) ?_
  intro pp ee ss mm bel mth cx C hr hlk
  show V pp l ee { frames := 1, cells := 0, slots := 0, locals := 22 } ss mm ([.ref (adr L 14 0 0), .int (iI w)]).toArray bel mth cx 2 L (HH L g) 0 0 _ 0 [(0, .ref (adr L 14 0 0)), (1, .int (iI w))] []
  refine v_aload_n (pc := 0) C 0 rfl rfl dX7_setting_0 ?_
  refine v_iconst (pc := 1) C dX7_setting_1 ?_
  refine pt_14_0 (pc := 2) C u_8_10 dX7_setting_2 ?_
  refine v_iload_n (pc := 5) C 1 rfl rfl dX7_setting_5 ?_
  refine v_iconst (pc := 6) C dX7_setting_6 ?_
  refine v_iconst (pc := 7) C dX7_setting_7 ?_
  refine v_calliS (pc := 8) C cw_RX7_29 (ct_X7_within l L (up g 14 0 0 0 0) w 0 2 (by first | assumption | exact hm0 | omega | (unfold rg; omega) | (simp [up] <;> omega)) (by first | assumption | exact hm0 | omega | (unfold rg; omega) | (simp [up] <;> omega)) (by first | assumption | exact hm0 | omega | (unfold rg; omega) | (simp [up] <;> omega))) ⟨Nat.le_of_ble_eq_true rfl, Nat.le_of_ble_eq_true rfl⟩ rfl (Nat.le_of_ble_eq_true rfl) ⟨Nat.le_of_ble_eq_true rfl, Nat.le_of_ble_eq_true rfl⟩ rfl dX7_setting_8 (fun r9 u9 hP_1 => ?_)
  obtain ⟨hP_1, hP_1b⟩ := hP_1
  rw [hP_1, hP_1b]
  clear hP_1 hP_1b r9 u9
  refine v_if_eq (pc := 11) C 23 z1_rg (by decide) dX7_setting_11 (fun h11 => ?_) (fun h11 => ?_)
  · skip
    have h11c := z1_eqt h11
    refine v_aload_n (pc := 23) C 0 rfl rfl dX7_setting_23 ?_
    refine v_iconst (pc := 24) C dX7_setting_24 ?_
    refine v_calliV (pc := 25) C cw_RX7_40 rcv_14 (ct_X7_fails l L (up g 14 0 0 0 0) 1 ) ⟨Nat.le_of_ble_eq_true rfl, Nat.le_of_ble_eq_true rfl⟩ rfl (Nat.le_of_ble_eq_true rfl) ⟨Nat.le_of_ble_eq_true rfl, Nat.le_of_ble_eq_true rfl⟩ rfl dX7_setting_25 (fun r9 u9 hP_2 => ?_)
    obtain ⟨hP_2, hP_2b⟩ := hP_2
    rw [hP_2, hP_2b]
    clear hP_2 hP_2b r9 u9
    exact v_iret (pc := 28) C hr hlk (by first | exact ⟨_, rfl, Or.inl ⟨by assumption, rfl, rfl⟩⟩ | exact ⟨_, rfl, Or.inr (Or.inl ⟨by assumption, by assumption, rfl, rfl⟩)⟩ | exact ⟨_, rfl, Or.inr (Or.inr ⟨by assumption, by assumption, rfl, rfl⟩)⟩ | exact ⟨_, rfl, Or.inr ⟨by assumption, rfl, rfl⟩⟩) dX7_setting_28
  · skip
    have h11c := z1_eqf h11
    refine v_aload_n (pc := 14) C 0 rfl rfl dX7_setting_14 ?_
    refine gt_14_1 (pc := 15) C u_4_4 dX7_setting_15 ?_
    refine v_iload_n (pc := 18) C 1 rfl rfl dX7_setting_18 ?_
    refine al_15 (pc := 19) C ⟨by (first | assumption | exact hm0 | omega | (unfold rg; omega) | (simp [up] <;> omega)), by (first | assumption | exact hm0 | omega | (unfold rg; omega) | (simp [up] <;> omega))⟩ dX7_setting_19 (g 15 0 0 w) (by simp [up]) ?_
    refine v_goto (pc := 20) C 28 (by decide) dX7_setting_20 ?_
    exact v_iret (pc := 28) C hr hlk (by first | exact ⟨_, rfl, Or.inl ⟨by assumption, rfl, rfl⟩⟩ | exact ⟨_, rfl, Or.inr (Or.inl ⟨by assumption, by assumption, rfl, rfl⟩)⟩ | exact ⟨_, rfl, Or.inr (Or.inr ⟨by assumption, by assumption, rfl, rfl⟩)⟩ | exact ⟨_, rfl, Or.inr ⟨by assumption, rfl, rfl⟩⟩) dX7_setting_28
set_option maxHeartbeats 4000000 in
set_option maxRecDepth 100000 in
theorem ct_X7_echoIn (l : Launch) (L : Lay) (g : St) (d p w : Int) (hm : wm (g 15 0 0) d) (hd : 0 ≤ d ∧ d ≤ 1) (hrp : rg p) (hrw : rg w) : Met l yX7_echoIn (.code yX7_echoIn cX7_echoIn 3 (some .int) :: wsL_law) { frames := 2, cells := 0, slots := 0, locals := 46 } (va_Pc [.ref (adr L 14 0 0), .int (iI p), .int (iI w)] (HS L g)) (va_Qi (fun (r9 : Int32) (u : St) => ∃ z : Int, r9 = iI z ∧ ((¬ (0 ≤ p ∧ p ≤ 3) ∧ u = er g 1 ∧ z = 0) ∨ ((0 ≤ p ∧ p ≤ 3) ∧ ¬ (0 ≤ w ∧ w ≤ 1) ∧ u = er g 2 ∧ z = 0) ∨ ((0 ≤ p ∧ p ≤ 3) ∧ (0 ≤ w ∧ w ≤ 1) ∧ u = t0 g ∧ z = mD1 (t0 g) p w))) (fun u t => HS L u t) (Af L)) 0 0 (Af L) := by
  refine ct_mk (by decide +kernel) (Nat.le_of_ble_eq_true rfl) ?_
  intro pp ee ss mm bel mth cx C hr hlk
  show V pp l ee { frames := 2, cells := 0, slots := 0, locals := 46 } ss mm ([.ref (adr L 14 0 0), .int (iI p), .int (iI w)]).toArray bel mth cx 3 L (HH L g) 0 0 _ 0 [(0, .ref (adr L 14 0 0)), (1, .int (iI p)), (2, .int (iI w))] []
  have hm0 := wm_t0 hm
  refine v_aload_n (pc := 0) C 0 rfl rfl dX7_echoIn_0 ?_
  refine v_iconst (pc := 1) C dX7_echoIn_1 ?_
  refine pt_14_0 (pc := 2) C u_8_10 dX7_echoIn_2 ?_
  refine v_iload_n (pc := 5) C 1 rfl rfl dX7_echoIn_5 ?_
  refine v_calliS (pc := 6) C cw_RX7_91 (ct_X7_isPlayer l L (up g 14 0 0 0 0) p (by first | assumption | exact hm0 | omega | (unfold rg; omega) | (simp [up] <;> omega))) ⟨Nat.le_of_ble_eq_true rfl, Nat.le_of_ble_eq_true rfl⟩ rfl (Nat.le_of_ble_eq_true rfl) ⟨Nat.le_of_ble_eq_true rfl, Nat.le_of_ble_eq_true rfl⟩ rfl dX7_echoIn_6 (fun r9 u9 hP_1 => ?_)
  obtain ⟨hP_1, hP_1b⟩ := hP_1
  rw [hP_1, hP_1b]
  clear hP_1 hP_1b r9 u9
  refine v_if_ne (pc := 9) C 18 z1_rg (by decide) dX7_echoIn_9 (fun h9 => ?_) (fun h9 => ?_)
  · skip
    have h9c := z1_net h9
    refine v_iload_n (pc := 18) C 2 rfl rfl dX7_echoIn_18 ?_
    refine v_iconst (pc := 19) C dX7_echoIn_19 ?_
    refine v_iconst (pc := 20) C dX7_echoIn_20 ?_
    refine v_calliS (pc := 21) C cw_RX7_29 (ct_X7_within l L (up g 14 0 0 0 0) w 0 1 (by first | assumption | exact hm0 | omega | (unfold rg; omega) | (simp [up] <;> omega)) (by first | assumption | exact hm0 | omega | (unfold rg; omega) | (simp [up] <;> omega)) (by first | assumption | exact hm0 | omega | (unfold rg; omega) | (simp [up] <;> omega))) ⟨Nat.le_of_ble_eq_true rfl, Nat.le_of_ble_eq_true rfl⟩ rfl (Nat.le_of_ble_eq_true rfl) ⟨Nat.le_of_ble_eq_true rfl, Nat.le_of_ble_eq_true rfl⟩ rfl dX7_echoIn_21 (fun r9 u9 hP_2 => ?_)
    obtain ⟨hP_2, hP_2b⟩ := hP_2
    rw [hP_2, hP_2b]
    clear hP_2 hP_2b r9 u9
    refine v_if_eq (pc := 24) C 36 z1_rg (by decide) dX7_echoIn_24 (fun h24 => ?_) (fun h24 => ?_)
    · skip
      have h24c := z1_eqt h24
      refine v_aload_n (pc := 36) C 0 rfl rfl dX7_echoIn_36 ?_
      refine v_iconst (pc := 37) C dX7_echoIn_37 ?_
      refine v_calliV (pc := 38) C cw_RX7_40 rcv_14 (ct_X7_fails l L (up g 14 0 0 0 0) 2 ) ⟨Nat.le_of_ble_eq_true rfl, Nat.le_of_ble_eq_true rfl⟩ rfl (Nat.le_of_ble_eq_true rfl) ⟨Nat.le_of_ble_eq_true rfl, Nat.le_of_ble_eq_true rfl⟩ rfl dX7_echoIn_38 (fun r9 u9 hP_3 => ?_)
      obtain ⟨hP_3, hP_3b⟩ := hP_3
      rw [hP_3, hP_3b]
      clear hP_3 hP_3b r9 u9
      exact v_iret (pc := 41) C hr hlk (by first | exact ⟨_, rfl, Or.inl ⟨by assumption, rfl, rfl⟩⟩ | exact ⟨_, rfl, Or.inr (Or.inl ⟨by assumption, by assumption, rfl, rfl⟩)⟩ | exact ⟨_, rfl, Or.inr (Or.inr ⟨by assumption, by assumption, rfl, rfl⟩)⟩ | exact ⟨_, rfl, Or.inr ⟨by assumption, rfl, rfl⟩⟩) dX7_echoIn_41
    · skip
      have h24c := z1_eqf h24
      refine v_aload_n (pc := 27) C 0 rfl rfl dX7_echoIn_27 ?_
      refine v_iload_n (pc := 28) C 1 rfl rfl dX7_echoIn_28 ?_
      refine v_iload_n (pc := 29) C 2 rfl rfl dX7_echoIn_29 ?_
      refine v_calliV (pc := 30) C cw_RX7_172 rcv_14 (ct_X7_delayOf l L (up g 14 0 0 0 0) d p w (by first | assumption | exact hm0 | omega | (unfold rg; omega) | (simp [up] <;> omega)) (by first | assumption | exact hm0 | omega | (unfold rg; omega) | (simp [up] <;> omega)) (by first | assumption | exact hm0 | omega | (unfold rg; omega) | (simp [up] <;> omega))) ⟨Nat.le_of_ble_eq_true rfl, Nat.le_of_ble_eq_true rfl⟩ rfl (Nat.le_of_ble_eq_true rfl) ⟨Nat.le_of_ble_eq_true rfl, Nat.le_of_ble_eq_true rfl⟩ rfl dX7_echoIn_30 (fun r9 u9 hP_4 => ?_)
      obtain ⟨hP_4, hP_4b⟩ := hP_4
      rw [hP_4, hP_4b]
      clear hP_4 hP_4b r9 u9
      refine v_goto (pc := 33) C 41 (by decide) dX7_echoIn_33 ?_
      exact v_iret (pc := 41) C hr hlk (by first | exact ⟨_, rfl, Or.inl ⟨by assumption, rfl, rfl⟩⟩ | exact ⟨_, rfl, Or.inr (Or.inl ⟨by assumption, by assumption, rfl, rfl⟩)⟩ | exact ⟨_, rfl, Or.inr (Or.inr ⟨by assumption, by assumption, rfl, rfl⟩)⟩ | exact ⟨_, rfl, Or.inr ⟨by assumption, rfl, rfl⟩⟩) dX7_echoIn_41
  · skip
    have h9c := z1_nef h9
    refine v_aload_n (pc := 12) C 0 rfl rfl dX7_echoIn_12 ?_
    refine v_iconst (pc := 13) C dX7_echoIn_13 ?_
    refine v_calliV (pc := 14) C cw_RX7_40 rcv_14 (ct_X7_fails l L (up g 14 0 0 0 0) 1 ) ⟨Nat.le_of_ble_eq_true rfl, Nat.le_of_ble_eq_true rfl⟩ rfl (Nat.le_of_ble_eq_true rfl) ⟨Nat.le_of_ble_eq_true rfl, Nat.le_of_ble_eq_true rfl⟩ rfl dX7_echoIn_14 (fun r9 u9 hP_5 => ?_)
    obtain ⟨hP_5, hP_5b⟩ := hP_5
    rw [hP_5, hP_5b]
    clear hP_5 hP_5b r9 u9
    exact v_iret (pc := 17) C hr hlk (by first | exact ⟨_, rfl, Or.inl ⟨by assumption, rfl, rfl⟩⟩ | exact ⟨_, rfl, Or.inr (Or.inl ⟨by assumption, by assumption, rfl, rfl⟩)⟩ | exact ⟨_, rfl, Or.inr (Or.inr ⟨by assumption, by assumption, rfl, rfl⟩)⟩ | exact ⟨_, rfl, Or.inr ⟨by assumption, rfl, rfl⟩⟩) dX7_echoIn_17
set_option maxHeartbeats 4000000 in
set_option maxRecDepth 100000 in
theorem ct_X7_callIn (l : Launch) (L : Lay) (g : St) (d p : Int) (hm : wm (g 15 0 0) d) (hd : 0 ≤ d ∧ d ≤ 1) (hrp : rg p) : Met l yX7_callIn (.code yX7_callIn cX7_callIn 2 (some .int) :: wsL_law) { frames := 5, cells := 0, slots := 0, locals := 117 } (va_Pc [.ref (adr L 14 0 0), .int (iI p)] (HS L g)) (va_Qi (fun (r9 : Int32) (u : St) => ∃ z : Int, r9 = iI z ∧ ((¬ (0 ≤ p ∧ p ≤ 3) ∧ u = er g 1 ∧ z = 0) ∨ ((0 ≤ p ∧ p ≤ 3) ∧ u = t0 g ∧ z = mBw (t0 g) p))) (fun u t => HS L u t) (Af L)) 0 0 (Af L) := by
  refine ct_mk (by decide +kernel) (Nat.le_of_ble_eq_true rfl) ?_
  intro pp ee ss mm bel mth cx C hr hlk
  show V pp l ee { frames := 5, cells := 0, slots := 0, locals := 117 } ss mm ([.ref (adr L 14 0 0), .int (iI p)]).toArray bel mth cx 2 L (HH L g) 0 0 _ 0 [(0, .ref (adr L 14 0 0)), (1, .int (iI p))] []
  have hm0 := wm_t0 hm
  refine v_aload_n (pc := 0) C 0 rfl rfl dX7_callIn_0 ?_
  refine v_iconst (pc := 1) C dX7_callIn_1 ?_
  refine pt_14_0 (pc := 2) C u_8_10 dX7_callIn_2 ?_
  refine v_iload_n (pc := 5) C 1 rfl rfl dX7_callIn_5 ?_
  refine v_calliS (pc := 6) C cw_RX7_91 (ct_X7_isPlayer l L (up g 14 0 0 0 0) p (by first | assumption | exact hm0 | omega | (unfold rg; omega) | (simp [up] <;> omega))) ⟨Nat.le_of_ble_eq_true rfl, Nat.le_of_ble_eq_true rfl⟩ rfl (Nat.le_of_ble_eq_true rfl) ⟨Nat.le_of_ble_eq_true rfl, Nat.le_of_ble_eq_true rfl⟩ rfl dX7_callIn_6 (fun r9 u9 hP_1 => ?_)
  obtain ⟨hP_1, hP_1b⟩ := hP_1
  rw [hP_1, hP_1b]
  clear hP_1 hP_1b r9 u9
  refine v_if_eq (pc := 9) C 20 z1_rg (by decide) dX7_callIn_9 (fun h9 => ?_) (fun h9 => ?_)
  · skip
    have h9c := z1_eqt h9
    refine v_aload_n (pc := 20) C 0 rfl rfl dX7_callIn_20 ?_
    refine v_iconst (pc := 21) C dX7_callIn_21 ?_
    refine v_calliV (pc := 22) C cw_RX7_40 rcv_14 (ct_X7_fails l L (up g 14 0 0 0 0) 1 ) ⟨Nat.le_of_ble_eq_true rfl, Nat.le_of_ble_eq_true rfl⟩ rfl (Nat.le_of_ble_eq_true rfl) ⟨Nat.le_of_ble_eq_true rfl, Nat.le_of_ble_eq_true rfl⟩ rfl dX7_callIn_22 (fun r9 u9 hP_2 => ?_)
    obtain ⟨hP_2, hP_2b⟩ := hP_2
    rw [hP_2, hP_2b]
    clear hP_2 hP_2b r9 u9
    exact v_iret (pc := 25) C hr hlk (by first | exact ⟨_, rfl, Or.inl ⟨by assumption, rfl, rfl⟩⟩ | exact ⟨_, rfl, Or.inr (Or.inl ⟨by assumption, by assumption, rfl, rfl⟩)⟩ | exact ⟨_, rfl, Or.inr (Or.inr ⟨by assumption, by assumption, rfl, rfl⟩)⟩ | exact ⟨_, rfl, Or.inr ⟨by assumption, rfl, rfl⟩⟩) dX7_callIn_25
  · skip
    have h9c := z1_eqf h9
    refine v_aload_n (pc := 12) C 0 rfl rfl dX7_callIn_12 ?_
    refine v_iload_n (pc := 13) C 1 rfl rfl dX7_callIn_13 ?_
    refine v_calliV (pc := 14) C cw_RX7_181 rcv_14 (ct_X7_bestWait l L (up g 14 0 0 0 0) d p (by first | assumption | exact hm0 | omega | (unfold rg; omega) | (simp [up] <;> omega)) (by first | assumption | exact hm0 | omega | (unfold rg; omega) | (simp [up] <;> omega)) (by first | assumption | exact hm0 | omega | (unfold rg; omega) | (simp [up] <;> omega))) ⟨Nat.le_of_ble_eq_true rfl, Nat.le_of_ble_eq_true rfl⟩ rfl (Nat.le_of_ble_eq_true rfl) ⟨Nat.le_of_ble_eq_true rfl, Nat.le_of_ble_eq_true rfl⟩ rfl dX7_callIn_14 (fun r9 u9 hP_3 => ?_)
    obtain ⟨hP_3, hP_3b⟩ := hP_3
    rw [hP_3, hP_3b]
    clear hP_3 hP_3b r9 u9
    refine v_goto (pc := 17) C 25 (by decide) dX7_callIn_17 ?_
    exact v_iret (pc := 25) C hr hlk (by first | exact ⟨_, rfl, Or.inl ⟨by assumption, rfl, rfl⟩⟩ | exact ⟨_, rfl, Or.inr (Or.inl ⟨by assumption, by assumption, rfl, rfl⟩)⟩ | exact ⟨_, rfl, Or.inr (Or.inr ⟨by assumption, by assumption, rfl, rfl⟩)⟩ | exact ⟨_, rfl, Or.inr ⟨by assumption, rfl, rfl⟩⟩) dX7_callIn_25
set_option maxHeartbeats 4000000 in
set_option maxRecDepth 100000 in
theorem ct_X7_quietIn (l : Launch) (L : Lay) (g : St) (d : Int) (hm : wm (g 15 0 0) d) (hd : 0 ≤ d ∧ d ≤ 1) : Met l yX7_quietIn (.code yX7_quietIn cX7_quietIn 1 (some .int) :: wsL_law) { frames := 2, cells := 0, slots := 0, locals := 44 } (va_Pc [.ref (adr L 14 0 0)] (HS L g)) (va_Qi (fun (r9 : Int32) (u9 : St) => r9 = iI (mQu (t0 g) - t0 g 15 0 0 3) ∧ u9 = (up g 14 0 0 0 0)) (fun u t => HS L u t) (Af L)) 0 0 (Af L) := by
  refine ct_mk (by decide +kernel) (Nat.le_of_ble_eq_true rfl) ?_
  intro pp ee ss mm bel mth cx C hr hlk
  show V pp l ee { frames := 2, cells := 0, slots := 0, locals := 44 } ss mm ([.ref (adr L 14 0 0)]).toArray bel mth cx 1 L (HH L g) 0 0 _ 0 [(0, .ref (adr L 14 0 0))] []
  have hm0 := wm_t0 hm
  refine v_aload_n (pc := 0) C 0 rfl rfl dX7_quietIn_0 ?_
  refine v_iconst (pc := 1) C dX7_quietIn_1 ?_
  refine pt_14_0 (pc := 2) C u_8_10 dX7_quietIn_2 ?_
  refine v_aload_n (pc := 5) C 0 rfl rfl dX7_quietIn_5 ?_
  refine v_calliV (pc := 6) C cw_RX7_184 rcv_14 (ct_X7_tellsQuiet l L (up g 14 0 0 0 0) d (by first | assumption | exact hm0 | omega | (unfold rg; omega) | (simp [up] <;> omega)) (by first | assumption | exact hm0 | omega | (unfold rg; omega) | (simp [up] <;> omega))) ⟨Nat.le_of_ble_eq_true rfl, Nat.le_of_ble_eq_true rfl⟩ rfl (Nat.le_of_ble_eq_true rfl) ⟨Nat.le_of_ble_eq_true rfl, Nat.le_of_ble_eq_true rfl⟩ rfl dX7_quietIn_6 (fun r9 u9 hP_1 => ?_)
  obtain ⟨hP_1, hP_1b⟩ := hP_1
  rw [hP_1, hP_1b]
  clear hP_1 hP_1b r9 u9
  exact v_iret (pc := 9) C hr hlk (⟨congrArg iI (by rfl), rfl⟩) dX7_quietIn_9
set_option maxHeartbeats 4000000 in
set_option maxRecDepth 100000 in
theorem ct_X7_best (l : Launch) (L : Lay) (g : St) (hcm : ctM g) : Met l yX7_best (.code yX7_best cX7_best 1 (some .int) :: wsL_law) { frames := 2, cells := 0, slots := 0, locals := 46 } (va_Pc [.ref (adr L 14 0 0)] (HS L g)) (va_Qi (fun (r9 : Int32) (u9 : St) => r9 = iI (mBs (t0 g) 4) ∧ u9 = (up g 14 0 0 0 0)) (fun u t => HS L u t) (Af L)) 0 0 (Af L) := by
  refine ct_mk (by decide +kernel) (Nat.le_of_ble_eq_true rfl) ?_
  intro pp ee ss mm bel mth cx C hr hlk
  show V pp l ee { frames := 2, cells := 0, slots := 0, locals := 46 } ss mm ([.ref (adr L 14 0 0)]).toArray bel mth cx 1 L (HH L g) 0 0 _ 0 [(0, .ref (adr L 14 0 0))] []
  have hcm0 := ctM_t0 hcm
  refine v_aload_n (pc := 0) C 0 rfl rfl dX7_best_0 ?_
  refine v_iconst (pc := 1) C dX7_best_1 ?_
  refine pt_14_0 (pc := 2) C u_8_10 dX7_best_2 ?_
  refine v_aload_n (pc := 5) C 0 rfl rfl dX7_best_5 ?_
  refine v_calliV (pc := 6) C cw_RX7_187 rcv_14 (ct_X7_tellsBest l L (up g 14 0 0 0 0) (by first | assumption | exact hm0 | omega | (unfold rg; omega) | (simp [up] <;> omega))) ⟨Nat.le_of_ble_eq_true rfl, Nat.le_of_ble_eq_true rfl⟩ rfl (Nat.le_of_ble_eq_true rfl) ⟨Nat.le_of_ble_eq_true rfl, Nat.le_of_ble_eq_true rfl⟩ rfl dX7_best_6 (fun r9 u9 hP_1 => ?_)
  obtain ⟨hP_1, hP_1b⟩ := hP_1
  rw [hP_1, hP_1b]
  clear hP_1 hP_1b r9 u9
  exact v_iret (pc := 9) C hr hlk (⟨congrArg iI (by rfl), rfl⟩) dX7_best_9
set_option maxHeartbeats 4000000 in
set_option maxRecDepth 100000 in
theorem ct_X7_wouldClash (l : Launch) (L : Lay) (g : St) (d p w : Int) (hm : wm (g 15 0 0) d) (hd : 0 ≤ d ∧ d ≤ 1) (hrp : rg p) (hrw : rg w) : Met l yX7_wouldClash (.code yX7_wouldClash cX7_wouldClash 3 (some .int) :: wsL_law) { frames := 3, cells := 0, slots := 0, locals := 71 } (va_Pc [.ref (adr L 14 0 0), .int (iI p), .int (iI w)] (HS L g)) (va_Qi (fun (r9 : Int32) (u : St) => ∃ z : Int, r9 = iI z ∧ ((¬ (0 ≤ p ∧ p ≤ 3) ∧ u = er g 1 ∧ z = 0) ∨ ((0 ≤ p ∧ p ≤ 3) ∧ ¬ (0 ≤ w ∧ w ≤ 1) ∧ u = er g 2 ∧ z = 0) ∨ ((0 ≤ p ∧ p ≤ 3) ∧ (0 ≤ w ∧ w ≤ 1) ∧ u = t0 g ∧ z = (if mIs (t0 g) p w 0 then 1 else 0)))) (fun u t => HS L u t) (Af L)) 0 0 (Af L) := by
  refine ct_mk (by decide +kernel) (Nat.le_of_ble_eq_true rfl) ?_
  intro pp ee ss mm bel mth cx C hr hlk
  show V pp l ee { frames := 3, cells := 0, slots := 0, locals := 71 } ss mm ([.ref (adr L 14 0 0), .int (iI p), .int (iI w)]).toArray bel mth cx 3 L (HH L g) 0 0 _ 0 [(0, .ref (adr L 14 0 0)), (1, .int (iI p)), (2, .int (iI w))] []
  have hm0 := wm_t0 hm
  refine v_aload_n (pc := 0) C 0 rfl rfl dX7_wouldClash_0 ?_
  refine v_iconst (pc := 1) C dX7_wouldClash_1 ?_
  refine pt_14_0 (pc := 2) C u_8_10 dX7_wouldClash_2 ?_
  refine v_iload_n (pc := 5) C 1 rfl rfl dX7_wouldClash_5 ?_
  refine v_calliS (pc := 6) C cw_RX7_91 (ct_X7_isPlayer l L (up g 14 0 0 0 0) p (by first | assumption | exact hm0 | omega | (unfold rg; omega) | (simp [up] <;> omega))) ⟨Nat.le_of_ble_eq_true rfl, Nat.le_of_ble_eq_true rfl⟩ rfl (Nat.le_of_ble_eq_true rfl) ⟨Nat.le_of_ble_eq_true rfl, Nat.le_of_ble_eq_true rfl⟩ rfl dX7_wouldClash_6 (fun r9 u9 hP_1 => ?_)
  obtain ⟨hP_1, hP_1b⟩ := hP_1
  rw [hP_1, hP_1b]
  clear hP_1 hP_1b r9 u9
  refine v_if_ne (pc := 9) C 18 z1_rg (by decide) dX7_wouldClash_9 (fun h9 => ?_) (fun h9 => ?_)
  · skip
    have h9c := z1_net h9
    refine v_iload_n (pc := 18) C 2 rfl rfl dX7_wouldClash_18 ?_
    refine v_iconst (pc := 19) C dX7_wouldClash_19 ?_
    refine v_iconst (pc := 20) C dX7_wouldClash_20 ?_
    refine v_calliS (pc := 21) C cw_RX7_29 (ct_X7_within l L (up g 14 0 0 0 0) w 0 1 (by first | assumption | exact hm0 | omega | (unfold rg; omega) | (simp [up] <;> omega)) (by first | assumption | exact hm0 | omega | (unfold rg; omega) | (simp [up] <;> omega)) (by first | assumption | exact hm0 | omega | (unfold rg; omega) | (simp [up] <;> omega))) ⟨Nat.le_of_ble_eq_true rfl, Nat.le_of_ble_eq_true rfl⟩ rfl (Nat.le_of_ble_eq_true rfl) ⟨Nat.le_of_ble_eq_true rfl, Nat.le_of_ble_eq_true rfl⟩ rfl dX7_wouldClash_21 (fun r9 u9 hP_2 => ?_)
    obtain ⟨hP_2, hP_2b⟩ := hP_2
    rw [hP_2, hP_2b]
    clear hP_2 hP_2b r9 u9
    refine v_if_ne (pc := 24) C 33 z1_rg (by decide) dX7_wouldClash_24 (fun h24 => ?_) (fun h24 => ?_)
    · skip
      have h24c := z1_net h24
      refine v_aload_n (pc := 33) C 0 rfl rfl dX7_wouldClash_33 ?_
      refine v_iload_n (pc := 34) C 1 rfl rfl dX7_wouldClash_34 ?_
      refine v_iload_n (pc := 35) C 2 rfl rfl dX7_wouldClash_35 ?_
      refine v_iconst (pc := 36) C dX7_wouldClash_36 ?_
      refine v_calliV (pc := 37) C cw_RX7_175 rcv_14 (ct_X7_isClash l L (up g 14 0 0 0 0) d p w 0 (by first | assumption | exact hm0 | omega | (unfold rg; omega) | (simp [up] <;> omega)) (by first | assumption | exact hm0 | omega | (unfold rg; omega) | (simp [up] <;> omega)) (by first | assumption | exact hm0 | omega | (unfold rg; omega) | (simp [up] <;> omega)) (by first | assumption | exact hm0 | omega | (unfold rg; omega) | (simp [up] <;> omega)) (by first | assumption | exact hm0 | omega | (unfold rg; omega) | (simp [up] <;> omega))) ⟨Nat.le_of_ble_eq_true rfl, Nat.le_of_ble_eq_true rfl⟩ rfl (Nat.le_of_ble_eq_true rfl) ⟨Nat.le_of_ble_eq_true rfl, Nat.le_of_ble_eq_true rfl⟩ rfl dX7_wouldClash_37 (fun r9 u9 hP_3 => ?_)
      obtain ⟨hP_3, hP_3b⟩ := hP_3
      rw [hP_3, hP_3b]
      clear hP_3 hP_3b r9 u9
      refine v_if_eq (pc := 40) C 47 z1_rg (by decide) dX7_wouldClash_40 (fun h40 => ?_) (fun h40 => ?_)
      · skip
        have h40c := z1_eqt h40
        refine v_iconst (pc := 47) C dX7_wouldClash_47 ?_
        exact v_iret (pc := 48) C hr hlk (by first | exact ⟨_, rfl, Or.inl ⟨by assumption, rfl, rfl⟩⟩ | exact ⟨_, rfl, Or.inr (Or.inl ⟨by assumption, by assumption, rfl, rfl⟩)⟩ | exact ⟨_, rfl, Or.inr (Or.inr ⟨by assumption, by assumption, rfl, (if_pos h40c).symm⟩)⟩ | exact ⟨_, rfl, Or.inr (Or.inr ⟨by assumption, by assumption, rfl, (if_neg h40c).symm⟩)⟩) dX7_wouldClash_48
      · skip
        have h40c := z1_eqf h40
        refine v_iconst (pc := 43) C dX7_wouldClash_43 ?_
        refine v_goto (pc := 44) C 48 (by decide) dX7_wouldClash_44 ?_
        exact v_iret (pc := 48) C hr hlk (by first | exact ⟨_, rfl, Or.inl ⟨by assumption, rfl, rfl⟩⟩ | exact ⟨_, rfl, Or.inr (Or.inl ⟨by assumption, by assumption, rfl, rfl⟩)⟩ | exact ⟨_, rfl, Or.inr (Or.inr ⟨by assumption, by assumption, rfl, (if_pos h40c).symm⟩)⟩ | exact ⟨_, rfl, Or.inr (Or.inr ⟨by assumption, by assumption, rfl, (if_neg h40c).symm⟩)⟩) dX7_wouldClash_48
    · skip
      have h24c := z1_nef h24
      refine v_aload_n (pc := 27) C 0 rfl rfl dX7_wouldClash_27 ?_
      refine v_iconst (pc := 28) C dX7_wouldClash_28 ?_
      refine v_calliV (pc := 29) C cw_RX7_40 rcv_14 (ct_X7_fails l L (up g 14 0 0 0 0) 2 ) ⟨Nat.le_of_ble_eq_true rfl, Nat.le_of_ble_eq_true rfl⟩ rfl (Nat.le_of_ble_eq_true rfl) ⟨Nat.le_of_ble_eq_true rfl, Nat.le_of_ble_eq_true rfl⟩ rfl dX7_wouldClash_29 (fun r9 u9 hP_4 => ?_)
      obtain ⟨hP_4, hP_4b⟩ := hP_4
      rw [hP_4, hP_4b]
      clear hP_4 hP_4b r9 u9
      exact v_iret (pc := 32) C hr hlk (by first | exact ⟨_, rfl, Or.inl ⟨by assumption, rfl, rfl⟩⟩ | exact ⟨_, rfl, Or.inr (Or.inl ⟨by assumption, by assumption, rfl, rfl⟩)⟩ | exact ⟨_, rfl, Or.inr (Or.inr ⟨by assumption, by assumption, rfl, (if_pos h40c).symm⟩)⟩ | exact ⟨_, rfl, Or.inr (Or.inr ⟨by assumption, by assumption, rfl, (if_neg h40c).symm⟩)⟩) dX7_wouldClash_32
  · skip
    have h9c := z1_nef h9
    refine v_aload_n (pc := 12) C 0 rfl rfl dX7_wouldClash_12 ?_
    refine v_iconst (pc := 13) C dX7_wouldClash_13 ?_
    refine v_calliV (pc := 14) C cw_RX7_40 rcv_14 (ct_X7_fails l L (up g 14 0 0 0 0) 1 ) ⟨Nat.le_of_ble_eq_true rfl, Nat.le_of_ble_eq_true rfl⟩ rfl (Nat.le_of_ble_eq_true rfl) ⟨Nat.le_of_ble_eq_true rfl, Nat.le_of_ble_eq_true rfl⟩ rfl dX7_wouldClash_14 (fun r9 u9 hP_5 => ?_)
    obtain ⟨hP_5, hP_5b⟩ := hP_5
    rw [hP_5, hP_5b]
    clear hP_5 hP_5b r9 u9
    exact v_iret (pc := 17) C hr hlk (by first | exact ⟨_, rfl, Or.inl ⟨by assumption, rfl, rfl⟩⟩ | exact ⟨_, rfl, Or.inr (Or.inl ⟨by assumption, by assumption, rfl, rfl⟩)⟩ | exact ⟨_, rfl, Or.inr (Or.inr ⟨by assumption, by assumption, rfl, (if_pos h40c).symm⟩)⟩ | exact ⟨_, rfl, Or.inr (Or.inr ⟨by assumption, by assumption, rfl, (if_neg h40c).symm⟩)⟩) dX7_wouldClash_17
set_option maxHeartbeats 4000000 in
set_option maxRecDepth 100000 in
theorem ct_X7_ballIn (l : Launch) (L : Lay) (g : St) (d t w : Int) (hm : wm (g 15 0 0) d) (hd : 0 ≤ d ∧ d ≤ 1) (hrt : rg t) (hrw : rg w) : Met l yX7_ballIn (.code yX7_ballIn cX7_ballIn 3 (some .int) :: wsL_law) { frames := 2, cells := 0, slots := 0, locals := 46 } (va_Pc [.ref (adr L 14 0 0), .int (iI t), .int (iI w)] (HS L g)) (va_Qi (fun (r9 : Int32) (u : St) => ∃ z : Int, r9 = iI z ∧ ((¬ ((0 ≤ t ∧ t ≤ 99) ∧ (0 ≤ w ∧ w ≤ 2)) ∧ u = er g 1 ∧ z = 0) ∨ (((0 ≤ t ∧ t ≤ 99) ∧ (0 ≤ w ∧ w ≤ 2)) ∧ u = mbM (t0 g) t ∧ z = mbA (t0 g) t w))) (fun u t => HS L u t) (Af L)) 0 0 (Af L) := by
  refine ct_mk (by decide +kernel) (Nat.le_of_ble_eq_true rfl) ?_
  intro pp ee ss mm bel mth cx C hr hlk
  show V pp l ee { frames := 2, cells := 0, slots := 0, locals := 46 } ss mm ([.ref (adr L 14 0 0), .int (iI t), .int (iI w)]).toArray bel mth cx 3 L (HH L g) 0 0 _ 0 [(0, .ref (adr L 14 0 0)), (1, .int (iI t)), (2, .int (iI w))] []
  have hm0 := wm_t0 hm
  refine v_aload_n (pc := 0) C 0 rfl rfl dX7_ballIn_0 ?_
  refine v_iconst (pc := 1) C dX7_ballIn_1 ?_
  refine pt_14_0 (pc := 2) C u_8_10 dX7_ballIn_2 ?_
  refine v_iload_n (pc := 5) C 1 rfl rfl dX7_ballIn_5 ?_
  refine v_iconst (pc := 6) C dX7_ballIn_6 ?_
  refine v_bipush (pc := 7) C rfl dX7_ballIn_7 ?_
  refine v_calliS (pc := 9) C cw_RX7_29 (ct_X7_within l L (up g 14 0 0 0 0) t 0 99 (by first | assumption | exact hm0 | omega | (unfold rg; omega) | (simp [up] <;> omega)) (by first | assumption | exact hm0 | omega | (unfold rg; omega) | (simp [up] <;> omega)) (by first | assumption | exact hm0 | omega | (unfold rg; omega) | (simp [up] <;> omega))) ⟨Nat.le_of_ble_eq_true rfl, Nat.le_of_ble_eq_true rfl⟩ rfl (Nat.le_of_ble_eq_true rfl) ⟨Nat.le_of_ble_eq_true rfl, Nat.le_of_ble_eq_true rfl⟩ rfl dX7_ballIn_9 (fun r9 u9 hP_1 => ?_)
  obtain ⟨hP_1, hP_1b⟩ := hP_1
  rw [hP_1, hP_1b]
  clear hP_1 hP_1b r9 u9
  refine v_if_eq (pc := 12) C 33 z1_rg (by decide) dX7_ballIn_12 (fun h12 => ?_) (fun h12 => ?_)
  · skip
    have h12c := z1_eqt h12
    refine v_aload_n (pc := 33) C 0 rfl rfl dX7_ballIn_33 ?_
    refine v_iconst (pc := 34) C dX7_ballIn_34 ?_
    refine v_calliV (pc := 35) C cw_RX7_40 rcv_14 (ct_X7_fails l L (up g 14 0 0 0 0) 1 ) ⟨Nat.le_of_ble_eq_true rfl, Nat.le_of_ble_eq_true rfl⟩ rfl (Nat.le_of_ble_eq_true rfl) ⟨Nat.le_of_ble_eq_true rfl, Nat.le_of_ble_eq_true rfl⟩ rfl dX7_ballIn_35 (fun r9 u9 hP_2 => ?_)
    obtain ⟨hP_2, hP_2b⟩ := hP_2
    rw [hP_2, hP_2b]
    clear hP_2 hP_2b r9 u9
    exact v_iret (pc := 38) C hr hlk (by first | exact ⟨_, rfl, Or.inl ⟨fun hx => absurd hx.1 h12c, rfl, rfl⟩⟩ | exact ⟨_, rfl, Or.inl ⟨fun hx => absurd hx.2 h21c, rfl, rfl⟩⟩ | exact ⟨_, rfl, Or.inr ⟨⟨h12c, h21c⟩, rfl, rfl⟩⟩) dX7_ballIn_38
  · skip
    have h12c := z1_eqf h12
    refine v_iload_n (pc := 15) C 2 rfl rfl dX7_ballIn_15 ?_
    refine v_iconst (pc := 16) C dX7_ballIn_16 ?_
    refine v_iconst (pc := 17) C dX7_ballIn_17 ?_
    refine v_calliS (pc := 18) C cw_RX7_29 (ct_X7_within l L (up g 14 0 0 0 0) w 0 2 (by first | assumption | exact hm0 | omega | (unfold rg; omega) | (simp [up] <;> omega)) (by first | assumption | exact hm0 | omega | (unfold rg; omega) | (simp [up] <;> omega)) (by first | assumption | exact hm0 | omega | (unfold rg; omega) | (simp [up] <;> omega))) ⟨Nat.le_of_ble_eq_true rfl, Nat.le_of_ble_eq_true rfl⟩ rfl (Nat.le_of_ble_eq_true rfl) ⟨Nat.le_of_ble_eq_true rfl, Nat.le_of_ble_eq_true rfl⟩ rfl dX7_ballIn_18 (fun r9 u9 hP_3 => ?_)
    obtain ⟨hP_3, hP_3b⟩ := hP_3
    rw [hP_3, hP_3b]
    clear hP_3 hP_3b r9 u9
    refine v_if_eq (pc := 21) C 33 z1_rg (by decide) dX7_ballIn_21 (fun h21 => ?_) (fun h21 => ?_)
    · skip
      have h21c := z1_eqt h21
      refine v_aload_n (pc := 33) C 0 rfl rfl dX7_ballIn_33 ?_
      refine v_iconst (pc := 34) C dX7_ballIn_34 ?_
      refine v_calliV (pc := 35) C cw_RX7_40 rcv_14 (ct_X7_fails l L (up g 14 0 0 0 0) 1 ) ⟨Nat.le_of_ble_eq_true rfl, Nat.le_of_ble_eq_true rfl⟩ rfl (Nat.le_of_ble_eq_true rfl) ⟨Nat.le_of_ble_eq_true rfl, Nat.le_of_ble_eq_true rfl⟩ rfl dX7_ballIn_35 (fun r9 u9 hP_4 => ?_)
      obtain ⟨hP_4, hP_4b⟩ := hP_4
      rw [hP_4, hP_4b]
      clear hP_4 hP_4b r9 u9
      exact v_iret (pc := 38) C hr hlk (by first | exact ⟨_, rfl, Or.inl ⟨fun hx => absurd hx.1 h12c, rfl, rfl⟩⟩ | exact ⟨_, rfl, Or.inl ⟨fun hx => absurd hx.2 h21c, rfl, rfl⟩⟩ | exact ⟨_, rfl, Or.inr ⟨⟨h12c, h21c⟩, rfl, rfl⟩⟩) dX7_ballIn_38
    · skip
      have h21c := z1_eqf h21
      refine v_aload_n (pc := 24) C 0 rfl rfl dX7_ballIn_24 ?_
      refine v_iload_n (pc := 25) C 1 rfl rfl dX7_ballIn_25 ?_
      refine v_iload_n (pc := 26) C 2 rfl rfl dX7_ballIn_26 ?_
      refine v_calliV (pc := 27) C cw_RX7_169 rcv_14 (ct_X7_tellsBall l L (up g 14 0 0 0 0) d t w (by first | assumption | exact hm0 | omega | (unfold rg; omega) | (simp [up] <;> omega)) (by first | assumption | exact hm0 | omega | (unfold rg; omega) | (simp [up] <;> omega)) (by first | assumption | exact hm0 | omega | (unfold rg; omega) | (simp [up] <;> omega)) (by first | assumption | exact hm0 | omega | (unfold rg; omega) | (simp [up] <;> omega))) ⟨Nat.le_of_ble_eq_true rfl, Nat.le_of_ble_eq_true rfl⟩ rfl (Nat.le_of_ble_eq_true rfl) ⟨Nat.le_of_ble_eq_true rfl, Nat.le_of_ble_eq_true rfl⟩ rfl dX7_ballIn_27 (fun r9 u9 hP_5 => ?_)
      obtain ⟨hP_5, hP_5b⟩ := hP_5
      rw [hP_5, hP_5b]
      clear hP_5 hP_5b r9 u9
      refine v_goto (pc := 30) C 38 (by decide) dX7_ballIn_30 ?_
      exact v_iret (pc := 38) C hr hlk (by first | exact ⟨_, rfl, Or.inl ⟨fun hx => absurd hx.1 h12c, rfl, rfl⟩⟩ | exact ⟨_, rfl, Or.inl ⟨fun hx => absurd hx.2 h21c, rfl, rfl⟩⟩ | exact ⟨_, rfl, Or.inr ⟨⟨h12c, h21c⟩, rfl, rfl⟩⟩) dX7_ballIn_38
set_option maxHeartbeats 4000000 in
set_option maxRecDepth 100000 in
theorem ct_X7_echoOf (l : Launch) (L : Lay) (g : St) (d r w : Int) (hm : wm (g 15 0 0) d) (hd : 0 ≤ d ∧ d ≤ 1) (hrr : rg r) (hrw : rg w) : Met l yX7_echoOf (.code yX7_echoOf cX7_echoOf 3 (some .int) :: wsL_law) { frames := 3, cells := 0, slots := 0, locals := 71 } (va_Pc [.ref (adr L 14 0 0), .int (iI r), .int (iI w)] (HS L g)) (va_Qi (fun (r9 : Int32) (u : St) => ∃ z : Int, r9 = iI z ∧ ((¬ (0 ≤ r ∧ (0 ≤ w ∧ w ≤ 5)) ∧ u = er g 1 ∧ z = 0) ∨ ((0 ≤ r ∧ (0 ≤ w ∧ w ≤ 5)) ∧ u = t0 g ∧ z = mEt (t0 g) r w))) (fun u t => HS L u t) (Af L)) 0 0 (Af L) := by
  refine ct_mk (by decide +kernel) (Nat.le_of_ble_eq_true rfl) ?_
  intro pp ee ss mm bel mth cx C hr hlk
  show V pp l ee { frames := 3, cells := 0, slots := 0, locals := 71 } ss mm ([.ref (adr L 14 0 0), .int (iI r), .int (iI w)]).toArray bel mth cx 3 L (HH L g) 0 0 _ 0 [(0, .ref (adr L 14 0 0)), (1, .int (iI r)), (2, .int (iI w))] []
  have hm0 := wm_t0 hm
  refine v_aload_n (pc := 0) C 0 rfl rfl dX7_echoOf_0 ?_
  refine v_iconst (pc := 1) C dX7_echoOf_1 ?_
  refine pt_14_0 (pc := 2) C u_8_10 dX7_echoOf_2 ?_
  refine v_iload_n (pc := 5) C 1 rfl rfl dX7_echoOf_5 ?_
  refine v_if_lt (pc := 6) C 27 ⟨by (first | assumption | exact hm0 | omega | (unfold rg; omega) | (simp [up] <;> omega)), by (first | assumption | exact hm0 | omega | (unfold rg; omega) | (simp [up] <;> omega))⟩ (by decide) dX7_echoOf_6 (fun h6 => ?_) (fun h6 => ?_)
  · skip
    refine v_aload_n (pc := 27) C 0 rfl rfl dX7_echoOf_27 ?_
    refine v_iconst (pc := 28) C dX7_echoOf_28 ?_
    refine v_calliV (pc := 29) C cw_RX7_40 rcv_14 (ct_X7_fails l L (up g 14 0 0 0 0) 1 ) ⟨Nat.le_of_ble_eq_true rfl, Nat.le_of_ble_eq_true rfl⟩ rfl (Nat.le_of_ble_eq_true rfl) ⟨Nat.le_of_ble_eq_true rfl, Nat.le_of_ble_eq_true rfl⟩ rfl dX7_echoOf_29 (fun r9 u9 hP_1 => ?_)
    obtain ⟨hP_1, hP_1b⟩ := hP_1
    rw [hP_1, hP_1b]
    clear hP_1 hP_1b r9 u9
    exact v_iret (pc := 32) C hr hlk (by first | exact ⟨_, rfl, Or.inl ⟨fun hx => absurd hx.1 (by omega), rfl, rfl⟩⟩ | exact ⟨_, rfl, Or.inl ⟨fun hx => absurd hx.2 h15c, rfl, rfl⟩⟩ | exact ⟨_, rfl, Or.inr ⟨⟨by omega, h15c⟩, rfl, rfl⟩⟩) dX7_echoOf_32
  · skip
    refine v_iload_n (pc := 9) C 2 rfl rfl dX7_echoOf_9 ?_
    refine v_iconst (pc := 10) C dX7_echoOf_10 ?_
    refine v_iconst (pc := 11) C dX7_echoOf_11 ?_
    refine v_calliS (pc := 12) C cw_RX7_29 (ct_X7_within l L (up g 14 0 0 0 0) w 0 5 (by first | assumption | exact hm0 | omega | (unfold rg; omega) | (simp [up] <;> omega)) (by first | assumption | exact hm0 | omega | (unfold rg; omega) | (simp [up] <;> omega)) (by first | assumption | exact hm0 | omega | (unfold rg; omega) | (simp [up] <;> omega))) ⟨Nat.le_of_ble_eq_true rfl, Nat.le_of_ble_eq_true rfl⟩ rfl (Nat.le_of_ble_eq_true rfl) ⟨Nat.le_of_ble_eq_true rfl, Nat.le_of_ble_eq_true rfl⟩ rfl dX7_echoOf_12 (fun r9 u9 hP_2 => ?_)
    obtain ⟨hP_2, hP_2b⟩ := hP_2
    rw [hP_2, hP_2b]
    clear hP_2 hP_2b r9 u9
    refine v_if_eq (pc := 15) C 27 z1_rg (by decide) dX7_echoOf_15 (fun h15 => ?_) (fun h15 => ?_)
    · skip
      have h15c := z1_eqt h15
      refine v_aload_n (pc := 27) C 0 rfl rfl dX7_echoOf_27 ?_
      refine v_iconst (pc := 28) C dX7_echoOf_28 ?_
      refine v_calliV (pc := 29) C cw_RX7_40 rcv_14 (ct_X7_fails l L (up g 14 0 0 0 0) 1 ) ⟨Nat.le_of_ble_eq_true rfl, Nat.le_of_ble_eq_true rfl⟩ rfl (Nat.le_of_ble_eq_true rfl) ⟨Nat.le_of_ble_eq_true rfl, Nat.le_of_ble_eq_true rfl⟩ rfl dX7_echoOf_29 (fun r9 u9 hP_3 => ?_)
      obtain ⟨hP_3, hP_3b⟩ := hP_3
      rw [hP_3, hP_3b]
      clear hP_3 hP_3b r9 u9
      exact v_iret (pc := 32) C hr hlk (by first | exact ⟨_, rfl, Or.inl ⟨fun hx => absurd hx.1 (by omega), rfl, rfl⟩⟩ | exact ⟨_, rfl, Or.inl ⟨fun hx => absurd hx.2 h15c, rfl, rfl⟩⟩ | exact ⟨_, rfl, Or.inr ⟨⟨by omega, h15c⟩, rfl, rfl⟩⟩) dX7_echoOf_32
    · skip
      have h15c := z1_eqf h15
      refine v_aload_n (pc := 18) C 0 rfl rfl dX7_echoOf_18 ?_
      refine v_iload_n (pc := 19) C 1 rfl rfl dX7_echoOf_19 ?_
      refine v_iload_n (pc := 20) C 2 rfl rfl dX7_echoOf_20 ?_
      refine v_calliV (pc := 21) C cw_RX7_157 rcv_14 (ct_X7_tellsEcho l L (up g 14 0 0 0 0) d r w (by first | assumption | exact hm0 | omega | (unfold rg; omega) | (simp [up] <;> omega)) (by first | assumption | exact hm0 | omega | (unfold rg; omega) | (simp [up] <;> omega)) (by first | assumption | exact hm0 | omega | (unfold rg; omega) | (simp [up] <;> omega)) (by first | assumption | exact hm0 | omega | (unfold rg; omega) | (simp [up] <;> omega))) ⟨Nat.le_of_ble_eq_true rfl, Nat.le_of_ble_eq_true rfl⟩ rfl (Nat.le_of_ble_eq_true rfl) ⟨Nat.le_of_ble_eq_true rfl, Nat.le_of_ble_eq_true rfl⟩ rfl dX7_echoOf_21 (fun r9 u9 hP_4 => ?_)
      obtain ⟨hP_4, hP_4b⟩ := hP_4
      rw [hP_4, hP_4b]
      clear hP_4 hP_4b r9 u9
      refine v_goto (pc := 24) C 32 (by decide) dX7_echoOf_24 ?_
      exact v_iret (pc := 32) C hr hlk (by first | exact ⟨_, rfl, Or.inl ⟨fun hx => absurd hx.1 (by omega), rfl, rfl⟩⟩ | exact ⟨_, rfl, Or.inl ⟨fun hx => absurd hx.2 h15c, rfl, rfl⟩⟩ | exact ⟨_, rfl, Or.inr ⟨⟨by omega, h15c⟩, rfl, rfl⟩⟩) dX7_echoOf_32
set_option maxHeartbeats 4000000 in
set_option maxRecDepth 100000 in
theorem ct_X7_append (l : Launch) (L : Lay) (g : St) (a : Int) (hra : rg a) (hl : 0 ≤ g 14 0 0 7 ∧ g 14 0 0 7 ≤ 60) : Met l yX7_append (.code yX7_append cX7_append 2 (some .int) :: wsL_law) { frames := 1, cells := 0, slots := 0, locals := 22 } (va_Pc [.ref (adr L 14 0 0), .int (iI a)] (HS L g)) (va_Qi (fun (r9 : Int32) (u : St) => ∃ z : Int, r9 = iI z ∧ ((¬ (33 ≤ a ∧ a ≤ 126) ∧ u = er g 1 ∧ z = 0) ∨ ((33 ≤ a ∧ a ≤ 126) ∧ ¬ g 14 0 0 7 ≠ 60 ∧ u = er g 2 ∧ z = 0) ∨ ((33 ≤ a ∧ a ≤ 126) ∧ g 14 0 0 7 ≠ 60 ∧ u = up (up (t0 g) 19 0 0 (g 14 0 0 7) a) 14 0 0 7 (g 14 0 0 7 + 1) ∧ z = g 14 0 0 7 + 1))) (fun u t => HS L u t) (Af L)) 0 0 (Af L) := by
  refine ct_mk (by decide +kernel) (Nat.le_of_ble_eq_true rfl) ?_
  intro pp ee ss mm bel mth cx C hr hlk
  show V pp l ee { frames := 1, cells := 0, slots := 0, locals := 22 } ss mm ([.ref (adr L 14 0 0), .int (iI a)]).toArray bel mth cx 2 L (HH L g) 0 0 _ 0 [(0, .ref (adr L 14 0 0)), (1, .int (iI a))] []
  refine v_aload_n (pc := 0) C 0 rfl rfl dX7_append_0 ?_
  refine v_iconst (pc := 1) C dX7_append_1 ?_
  refine pt_14_0 (pc := 2) C u_8_10 dX7_append_2 ?_
  refine v_iload_n (pc := 5) C 1 rfl rfl dX7_append_5 ?_
  refine v_bipush (pc := 6) C rfl dX7_append_6 ?_
  refine v_bipush (pc := 8) C rfl dX7_append_8 ?_
  refine v_calliS (pc := 10) C cw_RX7_29 (ct_X7_within l L (up g 14 0 0 0 0) a 33 126 (by first | assumption | exact hm0 | omega | (unfold rg; omega) | (simp [up] <;> omega)) (by first | assumption | exact hm0 | omega | (unfold rg; omega) | (simp [up] <;> omega)) (by first | assumption | exact hm0 | omega | (unfold rg; omega) | (simp [up] <;> omega))) ⟨Nat.le_of_ble_eq_true rfl, Nat.le_of_ble_eq_true rfl⟩ rfl (Nat.le_of_ble_eq_true rfl) ⟨Nat.le_of_ble_eq_true rfl, Nat.le_of_ble_eq_true rfl⟩ rfl dX7_append_10 (fun r9 u9 hP_1 => ?_)
  obtain ⟨hP_1, hP_1b⟩ := hP_1
  rw [hP_1, hP_1b]
  clear hP_1 hP_1b r9 u9
  refine v_if_ne (pc := 13) C 22 z1_rg (by decide) dX7_append_13 (fun h13 => ?_) (fun h13 => ?_)
  · skip
    have h13c := z1_net h13
    refine v_aload_n (pc := 22) C 0 rfl rfl dX7_append_22 ?_
    refine gt_14_7 (pc := 23) C u_17_16 dX7_append_23 (g 14 0 0 7) (by simp [up]) ?_
    refine v_bipush (pc := 26) C rfl dX7_append_26 ?_
    refine v_icmp_ne (pc := 28) C 37 ⟨by (first | assumption | exact hm0 | omega | (unfold rg; omega) | (simp [up] <;> omega)), by (first | assumption | exact hm0 | omega | (unfold rg; omega) | (simp [up] <;> omega))⟩ ⟨by (first | assumption | exact hm0 | omega | (unfold rg; omega) | (simp [up] <;> omega)), by (first | assumption | exact hm0 | omega | (unfold rg; omega) | (simp [up] <;> omega))⟩ (by decide) dX7_append_28 (fun h28 => ?_) (fun h28 => ?_)
    · skip
      refine v_aload_n (pc := 37) C 0 rfl rfl dX7_append_37 ?_
      refine gt_14_6 (pc := 38) C u_4_8 dX7_append_38 ?_
      refine v_aload_n (pc := 41) C 0 rfl rfl dX7_append_41 ?_
      refine gt_14_7 (pc := 42) C u_17_16 dX7_append_42 (g 14 0 0 7) (by simp [up]) ?_
      refine v_iload_n (pc := 45) C 1 rfl rfl dX7_append_45 ?_
      refine as_19 (pc := 46) C ⟨by (first | assumption | exact hm0 | omega | (unfold rg; omega) | (simp [up] <;> omega)), by (first | assumption | exact hm0 | omega | (unfold rg; omega) | (simp [up] <;> omega))⟩ dX7_append_46 ?_
      refine v_aload_n (pc := 47) C 0 rfl rfl dX7_append_47 ?_
      refine v_dup (pc := 48) C rfl dX7_append_48 ?_
      refine gt_14_7 (pc := 49) C u_17_16 dX7_append_49 (g 14 0 0 7) (by simp [up]) ?_
      refine v_iconst (pc := 52) C dX7_append_52 ?_
      refine v_iadd (pc := 53) C dX7_append_53 ?_
      refine pt_14_7 (pc := 54) C u_17_16 dX7_append_54 ?_
      refine v_aload_n (pc := 57) C 0 rfl rfl dX7_append_57 ?_
      refine gt_14_7 (pc := 58) C u_17_16 dX7_append_58 ((g 14 0 0 7) + 1) (by simp [up]) ?_
      exact v_iret (pc := 61) C hr hlk (by first | exact ⟨_, rfl, Or.inl ⟨by assumption, rfl, rfl⟩⟩ | exact ⟨_, rfl, Or.inr (Or.inl ⟨by assumption, by assumption, rfl, rfl⟩)⟩ | exact ⟨_, rfl, Or.inr (Or.inr ⟨by assumption, by assumption, rfl, rfl⟩)⟩ | exact ⟨_, rfl, Or.inr ⟨by assumption, rfl, rfl⟩⟩) dX7_append_61
    · skip
      refine v_aload_n (pc := 31) C 0 rfl rfl dX7_append_31 ?_
      refine v_iconst (pc := 32) C dX7_append_32 ?_
      refine v_calliV (pc := 33) C cw_RX7_40 rcv_14 (ct_X7_fails l L (up g 14 0 0 0 0) 2 ) ⟨Nat.le_of_ble_eq_true rfl, Nat.le_of_ble_eq_true rfl⟩ rfl (Nat.le_of_ble_eq_true rfl) ⟨Nat.le_of_ble_eq_true rfl, Nat.le_of_ble_eq_true rfl⟩ rfl dX7_append_33 (fun r9 u9 hP_2 => ?_)
      obtain ⟨hP_2, hP_2b⟩ := hP_2
      rw [hP_2, hP_2b]
      clear hP_2 hP_2b r9 u9
      exact v_iret (pc := 36) C hr hlk (by first | exact ⟨_, rfl, Or.inl ⟨by assumption, rfl, rfl⟩⟩ | exact ⟨_, rfl, Or.inr (Or.inl ⟨by assumption, by assumption, rfl, rfl⟩)⟩ | exact ⟨_, rfl, Or.inr (Or.inr ⟨by assumption, by assumption, rfl, rfl⟩)⟩ | exact ⟨_, rfl, Or.inr ⟨by assumption, rfl, rfl⟩⟩) dX7_append_36
  · skip
    have h13c := z1_nef h13
    refine v_aload_n (pc := 16) C 0 rfl rfl dX7_append_16 ?_
    refine v_iconst (pc := 17) C dX7_append_17 ?_
    refine v_calliV (pc := 18) C cw_RX7_40 rcv_14 (ct_X7_fails l L (up g 14 0 0 0 0) 1 ) ⟨Nat.le_of_ble_eq_true rfl, Nat.le_of_ble_eq_true rfl⟩ rfl (Nat.le_of_ble_eq_true rfl) ⟨Nat.le_of_ble_eq_true rfl, Nat.le_of_ble_eq_true rfl⟩ rfl dX7_append_18 (fun r9 u9 hP_3 => ?_)
    obtain ⟨hP_3, hP_3b⟩ := hP_3
    rw [hP_3, hP_3b]
    clear hP_3 hP_3b r9 u9
    exact v_iret (pc := 21) C hr hlk (by first | exact ⟨_, rfl, Or.inl ⟨by assumption, rfl, rfl⟩⟩ | exact ⟨_, rfl, Or.inr (Or.inl ⟨by assumption, by assumption, rfl, rfl⟩)⟩ | exact ⟨_, rfl, Or.inr (Or.inr ⟨by assumption, by assumption, rfl, rfl⟩)⟩ | exact ⟨_, rfl, Or.inr ⟨by assumption, rfl, rfl⟩⟩) dX7_append_21
set_option maxHeartbeats 4000000 in
set_option maxRecDepth 100000 in
theorem ct_X7_clearBuffer (l : Launch) (L : Lay) (g : St)  : Met l yX7_clearBuffer (.code yX7_clearBuffer cX7_clearBuffer 2 (some .int) :: wsL_law) { frames := 0, cells := 0, slots := 0, locals := 0 } (va_Pc [.ref (adr L 14 0 0)] (HS L g)) (va_Qi (fun (r9 : Int32) (u9 : St) => r9 = iI (g 14 0 0 7) ∧ u9 = (up (up g 14 0 0 0 0) 14 0 0 7 0)) (fun u t => HS L u t) (Af L)) 0 0 (Af L) := by
  refine ct_mk (by decide +kernel) (Nat.le_of_ble_eq_true rfl) ?_
  intro pp ee ss mm bel mth cx C hr hlk
  show V pp l ee { frames := 0, cells := 0, slots := 0, locals := 0 } ss mm ([.ref (adr L 14 0 0)]).toArray bel mth cx 2 L (HH L g) 0 0 _ 0 [(0, .ref (adr L 14 0 0))] []
  refine v_aload_n (pc := 0) C 0 rfl rfl dX7_clearBuffer_0 ?_
  refine v_iconst (pc := 1) C dX7_clearBuffer_1 ?_
  refine pt_14_0 (pc := 2) C u_8_10 dX7_clearBuffer_2 ?_
  refine v_aload_n (pc := 5) C 0 rfl rfl dX7_clearBuffer_5 ?_
  refine gt_14_7 (pc := 6) C u_17_16 dX7_clearBuffer_6 (g 14 0 0 7) (by simp [up]) ?_
  refine v_istore_n (pc := 9) C [(1, .int (iI (g 14 0 0 7))), (0, .ref (adr L 14 0 0))] rfl (by decide) rfl dX7_clearBuffer_9 ?_
  refine v_aload_n (pc := 10) C 1 rfl rfl dX7_clearBuffer_10 ?_
  refine v_iconst (pc := 11) C dX7_clearBuffer_11 ?_
  refine pt_14_7 (pc := 12) C u_17_16 dX7_clearBuffer_12 ?_
  refine v_iload_n (pc := 15) C 0 rfl rfl dX7_clearBuffer_15 ?_
  exact v_iret (pc := 16) C hr hlk (⟨rfl, rfl⟩) dX7_clearBuffer_16
set_option maxHeartbeats 4000000 in
set_option maxRecDepth 100000 in
theorem ct_X7_next (l : Launch) (L : Lay) (g : St) (hb : wb g) : Met l yX7_next (.code yX7_next cX7_next 1 (some .int) :: wsL_law) { frames := 0, cells := 0, slots := 0, locals := 0 } (va_Pc [.ref (adr L 14 0 0)] (HS L g)) (va_Qi (fun (r9 : Int32) (u9 : St) => r9 = iI (nx g) ∧ u9 = g) (fun u t => HS L u t) (Af L)) 0 0 (Af L) := by
  refine ct_mk (by decide +kernel) (Nat.le_of_ble_eq_true rfl) ?_
  intro pp ee ss mm bel mth cx C hr hlk
  show V pp l ee { frames := 0, cells := 0, slots := 0, locals := 0 } ss mm ([.ref (adr L 14 0 0)]).toArray bel mth cx 1 L (HH L g) 0 0 _ 0 [(0, .ref (adr L 14 0 0))] []
  obtain ⟨hbl, hba, hbf⟩ := id hb
  have hnx := nx_in hb
  refine v_aload_n (pc := 0) C 0 rfl rfl dX7_next_0 ?_
  refine gt_14_8 (pc := 1) C u_19_8 dX7_next_1 (g 14 0 0 8) (rfl) ?_
  refine v_aload_n (pc := 4) C 0 rfl rfl dX7_next_4 ?_
  refine gt_14_7 (pc := 5) C u_17_16 dX7_next_5 (g 14 0 0 7) (rfl) ?_
  refine v_icmp_ge (pc := 8) C 23 ⟨by (first | assumption | omega | (unfold rg; omega) | (simp [up] <;> omega)), by (first | assumption | omega | (unfold rg; omega) | (simp [up] <;> omega))⟩ ⟨by (first | assumption | omega | (unfold rg; omega) | (simp [up] <;> omega)), by (first | assumption | omega | (unfold rg; omega) | (simp [up] <;> omega))⟩ (by decide) dX7_next_8 (fun h8 => ?_) (fun h8 => ?_)
  · skip
    refine v_iconst (pc := 23) C dX7_next_23 ?_
    exact v_iret (pc := 24) C hr hlk (⟨congrArg iI (by unfold nx; first | rw [if_pos (by omega)] | rw [if_neg (by omega)]), rfl⟩) dX7_next_24
  · skip
    refine v_aload_n (pc := 11) C 0 rfl rfl dX7_next_11 ?_
    refine gt_14_6 (pc := 12) C u_4_8 dX7_next_12 ?_
    refine v_aload_n (pc := 15) C 0 rfl rfl dX7_next_15 ?_
    refine gt_14_8 (pc := 16) C u_19_8 dX7_next_16 (g 14 0 0 8) (rfl) ?_
    refine al_19 (pc := 19) C ⟨by (first | assumption | omega | (unfold rg; omega) | (simp [up] <;> omega)), by (first | assumption | omega | (unfold rg; omega) | (simp [up] <;> omega))⟩ dX7_next_19 (g 19 0 0 (g 14 0 0 8)) (rfl) ?_
    refine v_goto (pc := 20) C 24 (by decide) dX7_next_20 ?_
    exact v_iret (pc := 24) C hr hlk (⟨congrArg iI (by unfold nx; first | rw [if_pos (by omega)] | rw [if_neg (by omega)]), rfl⟩) dX7_next_24
set_option maxHeartbeats 4000000 in
set_option maxRecDepth 100000 in
theorem ct_X7_digit (l : Launch) (L : Lay) (g : St) (a b : Int) (hb : wb g) (ha : 0 ≤ a ∧ a ≤ 9) (hb2 : 0 ≤ b ∧ b ≤ 9) : Met l yX7_digit (.code yX7_digit cX7_digit 4 (some .int) :: wsL_law) { frames := 1, cells := 0, slots := 0, locals := 22 } (va_Pc [.ref (adr L 14 0 0), .int (iI a), .int (iI b)] (HS L g)) (va_Qi (fun (r9 : Int32) (u9 : St) => r9 = iI (dgR g a b) ∧ u9 = (dgG g a b)) (fun u t => HS L u t) (Af L)) 0 0 (Af L) := by
  refine ct_mk (by decide +kernel) (Nat.le_of_ble_eq_true rfl) ?_
  intro pp ee ss mm bel mth cx C hr hlk
  show V pp l ee { frames := 1, cells := 0, slots := 0, locals := 22 } ss mm ([.ref (adr L 14 0 0), .int (iI a), .int (iI b)]).toArray bel mth cx 4 L (HH L g) 0 0 _ 0 [(0, .ref (adr L 14 0 0)), (1, .int (iI a)), (2, .int (iI b))] []
  obtain ⟨hbl, hba, hbf⟩ := id hb
  have hnx := nx_in hb
  refine v_aload_n (pc := 0) C 0 rfl rfl dX7_digit_0 ?_
  refine v_calliV (pc := 1) C cw_RX7_114 rcv_14 (ct_X7_next l L g (by first | assumption | omega | (unfold rg; omega) | (simp [up] <;> omega))) ⟨Nat.le_of_ble_eq_true rfl, Nat.le_of_ble_eq_true rfl⟩ rfl (Nat.le_of_ble_eq_true rfl) ⟨Nat.le_of_ble_eq_true rfl, Nat.le_of_ble_eq_true rfl⟩ rfl dX7_digit_1 (fun r9 u9 hP_1 => ?_)
  obtain ⟨hP_1, hP_1b⟩ := hP_1
  rw [hP_1, hP_1b]
  clear hP_1 hP_1b r9 u9
  refine v_bipush (pc := 4) C rfl dX7_digit_4 ?_
  refine v_isub (pc := 6) C dX7_digit_6 ?_
  refine v_istore_n (pc := 7) C [(3, .int (iI ((nx g) - 48))), (0, .ref (adr L 14 0 0)), (1, .int (iI a)), (2, .int (iI b))] rfl (by decide) rfl dX7_digit_7 ?_
  refine v_iload_n (pc := 8) C 0 rfl rfl dX7_digit_8 ?_
  refine v_iload_n (pc := 9) C 2 rfl rfl dX7_digit_9 ?_
  refine v_iload_n (pc := 10) C 3 rfl rfl dX7_digit_10 ?_
  refine v_calliS (pc := 11) C cw_RX7_29 (ct_X7_within l L g ((nx g) - 48) a b (by first | assumption | omega | (unfold rg; omega) | (simp [up] <;> omega)) (by first | assumption | omega | (unfold rg; omega) | (simp [up] <;> omega)) (by first | assumption | omega | (unfold rg; omega) | (simp [up] <;> omega))) ⟨Nat.le_of_ble_eq_true rfl, Nat.le_of_ble_eq_true rfl⟩ rfl (Nat.le_of_ble_eq_true rfl) ⟨Nat.le_of_ble_eq_true rfl, Nat.le_of_ble_eq_true rfl⟩ rfl dX7_digit_11 (fun r9 u9 hP_2 => ?_)
  obtain ⟨hP_2, hP_2b⟩ := hP_2
  rw [hP_2, hP_2b]
  clear hP_2 hP_2b r9 u9
  refine v_if_ne (pc := 14) C 19 z1_rg (by decide) dX7_digit_14 (fun h14 => ?_) (fun h14 => ?_)
  · skip
    have h14c := z1_net h14
    refine v_aload_n (pc := 19) C 1 rfl rfl dX7_digit_19 ?_
    refine v_dup (pc := 20) C rfl dX7_digit_20 ?_
    refine gt_14_8 (pc := 21) C u_19_8 dX7_digit_21 (g 14 0 0 8) (rfl) ?_
    refine v_iconst (pc := 24) C dX7_digit_24 ?_
    refine v_iadd (pc := 25) C dX7_digit_25 ?_
    refine pt_14_8 (pc := 26) C u_19_8 dX7_digit_26 ?_
    refine v_iload_n (pc := 29) C 0 rfl rfl dX7_digit_29 ?_
    exact v_iret (pc := 30) C hr hlk (⟨congrArg iI (by unfold dgR; first | rw [if_pos (by omega)] | rw [if_neg (by omega)]), by unfold dgG; first | (rw [if_pos (by omega)]; rfl) | rw [if_neg (by omega)]⟩) dX7_digit_30
  · skip
    have h14c := z1_nef h14
    refine v_iconst (pc := 17) C dX7_digit_17 ?_
    exact v_iret (pc := 18) C hr hlk (⟨congrArg iI (by unfold dgR; first | rw [if_pos (by omega)] | rw [if_neg (by omega)]), by unfold dgG; first | (rw [if_pos (by omega)]; rfl) | rw [if_neg (by omega)]⟩) dX7_digit_18
set_option maxHeartbeats 4000000 in
set_option maxRecDepth 100000 in
theorem ct_X7_takes (l : Launch) (L : Lay) (g : St) (a : Int) (hb : wb g) (ha : 1 ≤ a ∧ a ≤ 126) : Met l yX7_takes (.code yX7_takes cX7_takes 3 (some .boolean) :: wsL_law) { frames := 1, cells := 0, slots := 0, locals := 20 } (va_Pc [.ref (adr L 14 0 0), .int (iI a)] (HS L g)) (va_Qi (fun (r9 : Int32) (u9 : St) => r9 = iI (if nx g = a then 1 else 0) ∧ u9 = (tkG g a)) (fun u t => HS L u t) (Af L)) 0 0 (Af L) := by
  refine ct_mk (by decide +kernel) (Nat.le_of_ble_eq_true rfl) ?_
  intro pp ee ss mm bel mth cx C hr hlk
  show V pp l ee { frames := 1, cells := 0, slots := 0, locals := 20 } ss mm ([.ref (adr L 14 0 0), .int (iI a)]).toArray bel mth cx 3 L (HH L g) 0 0 _ 0 [(0, .ref (adr L 14 0 0)), (1, .int (iI a))] []
  obtain ⟨hbl, hba, hbf⟩ := id hb
  have hnx := nx_in hb
  refine v_aload_n (pc := 0) C 0 rfl rfl dX7_takes_0 ?_
  refine v_calliV (pc := 1) C cw_RX7_114 rcv_14 (ct_X7_next l L g (by first | assumption | omega | (unfold rg; omega) | (simp [up] <;> omega))) ⟨Nat.le_of_ble_eq_true rfl, Nat.le_of_ble_eq_true rfl⟩ rfl (Nat.le_of_ble_eq_true rfl) ⟨Nat.le_of_ble_eq_true rfl, Nat.le_of_ble_eq_true rfl⟩ rfl dX7_takes_1 (fun r9 u9 hP_1 => ?_)
  obtain ⟨hP_1, hP_1b⟩ := hP_1
  rw [hP_1, hP_1b]
  clear hP_1 hP_1b r9 u9
  refine v_iload_n (pc := 4) C 1 rfl rfl dX7_takes_4 ?_
  refine v_icmp_ne (pc := 5) C 12 ⟨by (first | assumption | omega | (unfold rg; omega) | (simp [up] <;> omega)), by (first | assumption | omega | (unfold rg; omega) | (simp [up] <;> omega))⟩ ⟨by (first | assumption | omega | (unfold rg; omega) | (simp [up] <;> omega)), by (first | assumption | omega | (unfold rg; omega) | (simp [up] <;> omega))⟩ (by decide) dX7_takes_5 (fun h5 => ?_) (fun h5 => ?_)
  · skip
    refine v_iconst (pc := 12) C dX7_takes_12 ?_
    refine v_istore_n (pc := 13) C [(2, .int (iI 0)), (0, .ref (adr L 14 0 0)), (1, .int (iI a))] rfl (by decide) rfl dX7_takes_13 ?_
    refine v_aload_n (pc := 14) C 1 rfl rfl dX7_takes_14 ?_
    refine v_dup (pc := 15) C rfl dX7_takes_15 ?_
    refine gt_14_8 (pc := 16) C u_19_8 dX7_takes_16 (g 14 0 0 8) (rfl) ?_
    refine v_iload_n (pc := 19) C 0 rfl rfl dX7_takes_19 ?_
    refine v_if_eq (pc := 20) C 27 ⟨by (first | assumption | omega | (unfold rg; omega) | (simp [up] <;> omega)), by (first | assumption | omega | (unfold rg; omega) | (simp [up] <;> omega))⟩ (by decide) dX7_takes_20 (fun h20 => ?_) (fun h20 => ?_)
    · skip
      refine v_iconst (pc := 27) C dX7_takes_27 ?_
      refine v_iadd (pc := 28) C dX7_takes_28 ?_
      refine pt_14_8 (pc := 29) C u_19_8 dX7_takes_29 ?_
      refine v_iload_n (pc := 32) C 0 rfl rfl dX7_takes_32 ?_
      exact v_zret (pc := 33) C hr hlk (by first | assumption | omega | (unfold rg; omega) | (simp [up] <;> omega)) (⟨congrArg iI (by first | rw [if_pos (by omega)] | rw [if_neg (by omega)]), by unfold tkG; first | (rw [if_pos (by omega)]; rfl) | (rw [if_neg (by omega)]; funext f' k' j' i'; simp only [up]; grind)⟩) dX7_takes_33
    · skip
      exfalso; omega
  · skip
    refine v_iconst (pc := 8) C dX7_takes_8 ?_
    refine v_goto (pc := 9) C 13 (by decide) dX7_takes_9 ?_
    refine v_istore_n (pc := 13) C [(2, .int (iI 1)), (0, .ref (adr L 14 0 0)), (1, .int (iI a))] rfl (by decide) rfl dX7_takes_13 ?_
    refine v_aload_n (pc := 14) C 1 rfl rfl dX7_takes_14 ?_
    refine v_dup (pc := 15) C rfl dX7_takes_15 ?_
    refine gt_14_8 (pc := 16) C u_19_8 dX7_takes_16 (g 14 0 0 8) (rfl) ?_
    refine v_iload_n (pc := 19) C 0 rfl rfl dX7_takes_19 ?_
    refine v_if_eq (pc := 20) C 27 ⟨by (first | assumption | omega | (unfold rg; omega) | (simp [up] <;> omega)), by (first | assumption | omega | (unfold rg; omega) | (simp [up] <;> omega))⟩ (by decide) dX7_takes_20 (fun h20 => ?_) (fun h20 => ?_)
    · skip
      exfalso; omega
    · skip
      refine v_iconst (pc := 23) C dX7_takes_23 ?_
      refine v_goto (pc := 24) C 28 (by decide) dX7_takes_24 ?_
      refine v_iadd (pc := 28) C dX7_takes_28 ?_
      refine pt_14_8 (pc := 29) C u_19_8 dX7_takes_29 ?_
      refine v_iload_n (pc := 32) C 0 rfl rfl dX7_takes_32 ?_
      exact v_zret (pc := 33) C hr hlk (by first | assumption | omega | (unfold rg; omega) | (simp [up] <;> omega)) (⟨congrArg iI (by first | rw [if_pos (by omega)] | rw [if_neg (by omega)]), by unfold tkG; first | (rw [if_pos (by omega)]; rfl) | (rw [if_neg (by omega)]; funext f' k' j' i'; simp only [up]; grind)⟩) dX7_takes_33
set_option maxHeartbeats 4000000 in
set_option maxRecDepth 100000 in
theorem ct_X7_readsCall (l : Launch) (L : Lay) (g : St) (hb : wb g) : Met l yX7_readsCall (.code yX7_readsCall cX7_readsCall 1 (some .boolean) :: wsL_law) { frames := 2, cells := 0, slots := 0, locals := 45 } (va_Pc [.ref (adr L 14 0 0)] (HS L g)) (va_Qi (fun (r9 : Int32) (u9 : St) => r9 = iI (rcR g) ∧ u9 = (rcG g)) (fun u t => HS L u t) (Af L)) 0 0 (Af L) := by
  refine ct_mk (by decide +kernel) (Nat.le_of_ble_eq_true rfl) ?_
  intro pp ee ss mm bel mth cx C hr hlk
  show V pp l ee { frames := 2, cells := 0, slots := 0, locals := 45 } ss mm ([.ref (adr L 14 0 0)]).toArray bel mth cx 1 L (HH L g) 0 0 _ 0 [(0, .ref (adr L 14 0 0))] []
  have hf := wb_fsB (b := 3) hb (Int.le_refl 0)
  have hd1 := dgR_in (g := g) (Int.le_refl 0) (show (3 : Int) ≤ 9 by decide)
  refine v_aload_n (pc := 0) C 0 rfl rfl dX7_readsCall_0 ?_
  refine v_aload_n (pc := 1) C 0 rfl rfl dX7_readsCall_1 ?_
  refine v_iconst (pc := 2) C dX7_readsCall_2 ?_
  refine v_iconst (pc := 3) C dX7_readsCall_3 ?_
  refine v_calliV (pc := 4) C cw_RX7_117 rcv_14 (ct_X7_digit l L g 0 3 (by first | assumption | omega | exact hf | exact wb_tk hf (by decide) | (simp [up] <;> omega)) (by first | assumption | omega | exact hf | exact wb_tk hf (by decide) | (simp [up] <;> omega)) (by first | assumption | omega | exact hf | exact wb_tk hf (by decide) | (simp [up] <;> omega))) ⟨Nat.le_of_ble_eq_true rfl, Nat.le_of_ble_eq_true rfl⟩ rfl (Nat.le_of_ble_eq_true rfl) ⟨Nat.le_of_ble_eq_true rfl, Nat.le_of_ble_eq_true rfl⟩ rfl dX7_readsCall_4 (fun r9 u9 hP_1 => ?_)
  obtain ⟨hP_1, hP_1b⟩ := hP_1
  rw [hP_1, hP_1b]
  clear hP_1 hP_1b r9 u9
  refine pt_14_10 (pc := 7) C u_19_22 dX7_readsCall_7 ?_
  refine v_st (g2 := fsB g 0 3) C (rfl) ?_
  refine v_aload_n (pc := 10) C 0 rfl rfl dX7_readsCall_10 ?_
  refine gt_14_10 (pc := 11) C u_19_22 dX7_readsCall_11 (dgR g 0 3) (up_s) ?_
  refine v_iconst (pc := 14) C dX7_readsCall_14 ?_
  refine v_icmp_eq (pc := 15) C 27 ⟨by (first | assumption | omega | exact hf | exact wb_tk hf (by decide) | (simp [up] <;> omega)), by (first | assumption | omega | exact hf | exact wb_tk hf (by decide) | (simp [up] <;> omega))⟩ ⟨by (first | assumption | omega | exact hf | exact wb_tk hf (by decide) | (simp [up] <;> omega)), by (first | assumption | omega | exact hf | exact wb_tk hf (by decide) | (simp [up] <;> omega))⟩ (by decide) dX7_readsCall_15 (fun h15 => ?_) (fun h15 => ?_)
  · skip
    refine v_iconst (pc := 27) C dX7_readsCall_27 ?_
    exact v_zret (pc := 28) C hr hlk (by first | assumption | omega | exact hf | exact wb_tk hf (by decide) | (simp [up] <;> omega)) (⟨congrArg iI (by unfold rcR; (repeat' first | rfl | omega | rw [if_pos (by first | assumption | omega)] | rw [if_neg (by first | assumption | omega)])), by unfold rcG; first | rw [if_pos (by assumption)] | (rw [if_neg (by assumption), if_pos (by assumption)]) | (rw [if_neg (by assumption), if_neg (by assumption)]; exact tkG_no (by assumption))⟩) dX7_readsCall_28
  · skip
    refine v_aload_n (pc := 18) C 0 rfl rfl dX7_readsCall_18 ?_
    refine v_bipush (pc := 19) C rfl dX7_readsCall_19 ?_
    refine v_calliV (pc := 21) C cw_RX7_123 rcv_14 (ct_X7_takes l L (fsB g 0 3) 61 (by first | assumption | omega | exact hf | exact wb_tk hf (by decide) | (simp [up] <;> omega)) (by first | assumption | omega | exact hf | exact wb_tk hf (by decide) | (simp [up] <;> omega))) ⟨Nat.le_of_ble_eq_true rfl, Nat.le_of_ble_eq_true rfl⟩ rfl (Nat.le_of_ble_eq_true rfl) ⟨Nat.le_of_ble_eq_true rfl, Nat.le_of_ble_eq_true rfl⟩ rfl dX7_readsCall_21 (fun r9 u9 hP_2 => ?_)
    obtain ⟨hP_2, hP_2b⟩ := hP_2
    rw [hP_2, hP_2b]
    clear hP_2 hP_2b r9 u9
    refine v_if_ne (pc := 24) C 29 z1_rg (by decide) dX7_readsCall_24 (fun h24 => ?_) (fun h24 => ?_)
    · skip
      have h24c := z1_net h24
      have hd2 := dgR_in (g := tkG (fsB g 0 3) 61) (Int.le_refl 0) (Int.le_refl 9)
      refine v_aload_n (pc := 29) C 0 rfl rfl dX7_readsCall_29 ?_
      refine v_aload_n (pc := 30) C 0 rfl rfl dX7_readsCall_30 ?_
      refine v_iconst (pc := 31) C dX7_readsCall_31 ?_
      refine v_bipush (pc := 32) C rfl dX7_readsCall_32 ?_
      refine v_calliV (pc := 34) C cw_RX7_117 rcv_14 (ct_X7_digit l L (tkG (fsB g 0 3) 61) 0 9 (by first | assumption | omega | exact hf | exact wb_tk hf (by decide) | (simp [up] <;> omega)) (by first | assumption | omega | exact hf | exact wb_tk hf (by decide) | (simp [up] <;> omega)) (by first | assumption | omega | exact hf | exact wb_tk hf (by decide) | (simp [up] <;> omega))) ⟨Nat.le_of_ble_eq_true rfl, Nat.le_of_ble_eq_true rfl⟩ rfl (Nat.le_of_ble_eq_true rfl) ⟨Nat.le_of_ble_eq_true rfl, Nat.le_of_ble_eq_true rfl⟩ rfl dX7_readsCall_34 (fun r9 u9 hP_3 => ?_)
      obtain ⟨hP_3, hP_3b⟩ := hP_3
      rw [hP_3, hP_3b]
      clear hP_3 hP_3b r9 u9
      refine pt_14_11 (pc := 37) C u_19_23 dX7_readsCall_37 ?_
      refine v_st (g2 := snB (tkG (fsB g 0 3) 61) 0 9 1) C (by unfold snB; rw [Int.one_mul]) ?_
      refine v_aload_n (pc := 40) C 0 rfl rfl dX7_readsCall_40 ?_
      refine gt_14_11 (pc := 41) C u_19_23 dX7_readsCall_41 (dgR (tkG (fsB g 0 3) 61) 0 9) (by unfold snB; rw [up_s, Int.one_mul]) ?_
      refine v_iconst (pc := 44) C dX7_readsCall_44 ?_
      refine v_icmp_eq (pc := 45) C 52 ⟨by (first | assumption | omega | exact hf | exact wb_tk hf (by decide) | (simp [up] <;> omega)), by (first | assumption | omega | exact hf | exact wb_tk hf (by decide) | (simp [up] <;> omega))⟩ ⟨by (first | assumption | omega | exact hf | exact wb_tk hf (by decide) | (simp [up] <;> omega)), by (first | assumption | omega | exact hf | exact wb_tk hf (by decide) | (simp [up] <;> omega))⟩ (by decide) dX7_readsCall_45 (fun h45 => ?_) (fun h45 => ?_)
      · skip
        refine v_iconst (pc := 52) C dX7_readsCall_52 ?_
        exact v_zret (pc := 53) C hr hlk (by first | assumption | omega | exact hf | exact wb_tk hf (by decide) | (simp [up] <;> omega)) (⟨congrArg iI (by unfold rcR; (repeat' first | rfl | omega | rw [if_pos (by first | assumption | omega)] | rw [if_neg (by first | assumption | omega)])), by unfold rcG; first | rw [if_pos (by assumption)] | (rw [if_neg (by assumption), if_pos (by assumption)]) | (rw [if_neg (by assumption), if_neg (by assumption)]; exact tkG_no (by assumption))⟩) dX7_readsCall_53
      · skip
        refine v_iconst (pc := 48) C dX7_readsCall_48 ?_
        refine v_goto (pc := 49) C 53 (by decide) dX7_readsCall_49 ?_
        exact v_zret (pc := 53) C hr hlk (by first | assumption | omega | exact hf | exact wb_tk hf (by decide) | (simp [up] <;> omega)) (⟨congrArg iI (by unfold rcR; (repeat' first | rfl | omega | rw [if_pos (by first | assumption | omega)] | rw [if_neg (by first | assumption | omega)])), by unfold rcG; first | rw [if_pos (by assumption)] | (rw [if_neg (by assumption), if_pos (by assumption)]) | (rw [if_neg (by assumption), if_neg (by assumption)]; exact tkG_no (by assumption))⟩) dX7_readsCall_53
    · skip
      have h24c := z1_nef h24
      refine v_iconst (pc := 27) C dX7_readsCall_27 ?_
      exact v_zret (pc := 28) C hr hlk (by first | assumption | omega | exact hf | exact wb_tk hf (by decide) | (simp [up] <;> omega)) (⟨congrArg iI (by unfold rcR; (repeat' first | rfl | omega | rw [if_pos (by first | assumption | omega)] | rw [if_neg (by first | assumption | omega)])), by unfold rcG; first | rw [if_pos (by assumption)] | (rw [if_neg (by assumption), if_pos (by assumption)]) | (rw [if_neg (by assumption), if_neg (by assumption)]; exact tkG_no (by assumption))⟩) dX7_readsCall_28
set_option maxHeartbeats 4000000 in
set_option maxRecDepth 100000 in
theorem ct_X7_readsWalk (l : Launch) (L : Lay) (g : St) (hb : wb g) : Met l yX7_readsWalk (.code yX7_readsWalk cX7_readsWalk 3 (some .boolean) :: wsL_law) { frames := 2, cells := 0, slots := 0, locals := 45 } (va_Pc [.ref (adr L 14 0 0)] (HS L g)) (va_Qi (fun (r9 : Int32) (u9 : St) => r9 = iI (rwR g) ∧ u9 = (rwG g)) (fun u t => HS L u t) (Af L)) 0 0 (Af L) := by
  refine ct_mk (by decide +kernel) (Nat.le_of_ble_eq_true rfl) ?_
  intro pp ee ss mm bel mth cx C hr hlk
  show V pp l ee { frames := 2, cells := 0, slots := 0, locals := 45 } ss mm ([.ref (adr L 14 0 0)]).toArray bel mth cx 3 L (HH L g) 0 0 _ 0 [(0, .ref (adr L 14 0 0))] []
  have hf := wb_fsB (b := 3) hb (Int.le_refl 0)
  have hd1 := dgR_in (g := g) (Int.le_refl 0) (show (3 : Int) ≤ 9 by decide)
  have hn1 := nx_in hf
  have hd43 := dgR_in (g := tkG (fsB g 0 3) 43) (show (0 : Int) ≤ 1 by decide) (Int.le_refl 9)
  have hd45 := dgR_in (g := tkG (fsB g 0 3) 45) (show (0 : Int) ≤ 1 by decide) (Int.le_refl 9)
  refine v_aload_n (pc := 0) C 0 rfl rfl dX7_readsWalk_0 ?_
  refine v_aload_n (pc := 1) C 0 rfl rfl dX7_readsWalk_1 ?_
  refine v_iconst (pc := 2) C dX7_readsWalk_2 ?_
  refine v_iconst (pc := 3) C dX7_readsWalk_3 ?_
  refine v_calliV (pc := 4) C cw_RX7_117 rcv_14 (ct_X7_digit l L g 0 3 (by first | assumption | omega | exact hf | exact wb_tk hf (by decide) | (simp [up] <;> omega)) (by first | assumption | omega | exact hf | exact wb_tk hf (by decide) | (simp [up] <;> omega)) (by first | assumption | omega | exact hf | exact wb_tk hf (by decide) | (simp [up] <;> omega))) ⟨Nat.le_of_ble_eq_true rfl, Nat.le_of_ble_eq_true rfl⟩ rfl (Nat.le_of_ble_eq_true rfl) ⟨Nat.le_of_ble_eq_true rfl, Nat.le_of_ble_eq_true rfl⟩ rfl dX7_readsWalk_4 (fun r9 u9 hP_1 => ?_)
  obtain ⟨hP_1, hP_1b⟩ := hP_1
  rw [hP_1, hP_1b]
  clear hP_1 hP_1b r9 u9
  refine pt_14_10 (pc := 7) C u_19_22 dX7_readsWalk_7 ?_
  refine v_st (g2 := fsB g 0 3) C (rfl) ?_
  refine v_aload_n (pc := 10) C 0 rfl rfl dX7_readsWalk_10 ?_
  refine v_calliV (pc := 11) C cw_RX7_114 rcv_14 (ct_X7_next l L (fsB g 0 3) (by first | assumption | omega | exact hf | exact wb_tk hf (by decide) | (simp [up] <;> omega))) ⟨Nat.le_of_ble_eq_true rfl, Nat.le_of_ble_eq_true rfl⟩ rfl (Nat.le_of_ble_eq_true rfl) ⟨Nat.le_of_ble_eq_true rfl, Nat.le_of_ble_eq_true rfl⟩ rfl dX7_readsWalk_11 (fun r9 u9 hP_2 => ?_)
  obtain ⟨hP_2, hP_2b⟩ := hP_2
  rw [hP_2, hP_2b]
  clear hP_2 hP_2b r9 u9
  refine v_bipush (pc := 14) C rfl dX7_readsWalk_14 ?_
  refine v_icmp_ne (pc := 16) C 23 ⟨by (first | assumption | omega | exact hf | exact wb_tk hf (by decide) | (simp [up] <;> omega)), by (first | assumption | omega | exact hf | exact wb_tk hf (by decide) | (simp [up] <;> omega))⟩ ⟨by (first | assumption | omega | exact hf | exact wb_tk hf (by decide) | (simp [up] <;> omega)), by (first | assumption | omega | exact hf | exact wb_tk hf (by decide) | (simp [up] <;> omega))⟩ (by decide) dX7_readsWalk_16 (fun h16 => ?_) (fun h16 => ?_)
  · skip
    refine v_iconst (pc := 23) C dX7_readsWalk_23 ?_
    refine v_istore_n (pc := 24) C [(1, .int (iI (-1))), (0, .ref (adr L 14 0 0))] rfl (by decide) rfl dX7_readsWalk_24 ?_
    refine v_aload_n (pc := 25) C 1 rfl rfl dX7_readsWalk_25 ?_
    refine gt_14_10 (pc := 26) C u_19_22 dX7_readsWalk_26 (dgR g 0 3) (up_s) ?_
    refine v_iconst (pc := 29) C dX7_readsWalk_29 ?_
    refine v_icmp_eq (pc := 30) C 51 ⟨by (first | assumption | omega | exact hf | exact wb_tk hf (by decide) | (simp [up] <;> omega)), by (first | assumption | omega | exact hf | exact wb_tk hf (by decide) | (simp [up] <;> omega))⟩ ⟨by (first | assumption | omega | exact hf | exact wb_tk hf (by decide) | (simp [up] <;> omega)), by (first | assumption | omega | exact hf | exact wb_tk hf (by decide) | (simp [up] <;> omega))⟩ (by decide) dX7_readsWalk_30 (fun h30 => ?_) (fun h30 => ?_)
    · skip
      refine v_iconst (pc := 51) C dX7_readsWalk_51 ?_
      exact v_zret (pc := 52) C hr hlk (by first | assumption | omega | exact hf | exact wb_tk hf (by decide) | (simp [up] <;> omega)) (⟨congrArg iI (by first | (exfalso; omega) | (unfold rwR; (repeat' first | rfl | omega | rw [if_pos (by first | assumption | omega)] | rw [if_neg (by first | assumption | omega)]))), by first | (exfalso; omega) | (unfold rwG; (repeat' first | rfl | omega | rw [if_pos (by first | assumption | omega)] | rw [if_neg (by first | assumption | omega)]); try exact tkG_no (by assumption))⟩) dX7_readsWalk_52
    · skip
      refine v_aload_n (pc := 33) C 1 rfl rfl dX7_readsWalk_33 ?_
      refine v_bipush (pc := 34) C rfl dX7_readsWalk_34 ?_
      refine v_calliV (pc := 36) C cw_RX7_123 rcv_14 (ct_X7_takes l L (fsB g 0 3) 43 (by first | assumption | omega | exact hf | exact wb_tk hf (by decide) | (simp [up] <;> omega)) (by first | assumption | omega | exact hf | exact wb_tk hf (by decide) | (simp [up] <;> omega))) ⟨Nat.le_of_ble_eq_true rfl, Nat.le_of_ble_eq_true rfl⟩ rfl (Nat.le_of_ble_eq_true rfl) ⟨Nat.le_of_ble_eq_true rfl, Nat.le_of_ble_eq_true rfl⟩ rfl dX7_readsWalk_36 (fun r9 u9 hP_3 => ?_)
      obtain ⟨hP_3, hP_3b⟩ := hP_3
      rw [hP_3, hP_3b]
      clear hP_3 hP_3b r9 u9
      refine v_if_ne (pc := 39) C 53 z1_rg (by decide) dX7_readsWalk_39 (fun h39 => ?_) (fun h39 => ?_)
      · skip
        have h39c := z1_net h39
        refine v_aload_n (pc := 53) C 1 rfl rfl dX7_readsWalk_53 ?_
        refine v_iconst (pc := 54) C dX7_readsWalk_54 ?_
        refine v_bipush (pc := 55) C rfl dX7_readsWalk_55 ?_
        refine v_calliV (pc := 57) C cw_RX7_117 rcv_14 (ct_X7_digit l L (tkG (fsB g 0 3) 43) 1 9 (by first | assumption | omega | exact hf | exact wb_tk hf (by decide) | (simp [up] <;> omega)) (by first | assumption | omega | exact hf | exact wb_tk hf (by decide) | (simp [up] <;> omega)) (by first | assumption | omega | exact hf | exact wb_tk hf (by decide) | (simp [up] <;> omega))) ⟨Nat.le_of_ble_eq_true rfl, Nat.le_of_ble_eq_true rfl⟩ rfl (Nat.le_of_ble_eq_true rfl) ⟨Nat.le_of_ble_eq_true rfl, Nat.le_of_ble_eq_true rfl⟩ rfl dX7_readsWalk_57 (fun r9 u9 hP_4 => ?_)
        obtain ⟨hP_4, hP_4b⟩ := hP_4
        rw [hP_4, hP_4b]
        clear hP_4 hP_4b r9 u9
        refine v_istore_n (pc := 60) C [(2, .int (iI (dgR (tkG (fsB g 0 3) 43) 1 9))), (1, .int (iI (-1))), (0, .ref (adr L 14 0 0))] rfl (by decide) rfl dX7_readsWalk_60 ?_
        refine v_aload_n (pc := 61) C 2 rfl rfl dX7_readsWalk_61 ?_
        refine v_iload_n (pc := 62) C 1 rfl rfl dX7_readsWalk_62 ?_
        refine v_iload_n (pc := 63) C 0 rfl rfl dX7_readsWalk_63 ?_
        refine v_imul (pc := 64) C dX7_readsWalk_64 ?_
        refine pt_14_11 (pc := 65) C u_19_23 dX7_readsWalk_65 ?_
        refine v_iload_n (pc := 68) C 0 rfl rfl dX7_readsWalk_68 ?_
        refine v_iconst (pc := 69) C dX7_readsWalk_69 ?_
        refine v_icmp_eq (pc := 70) C 77 ⟨by (first | assumption | omega | exact hf | exact wb_tk hf (by decide) | (simp [up] <;> omega)), by (first | assumption | omega | exact hf | exact wb_tk hf (by decide) | (simp [up] <;> omega))⟩ ⟨by (first | assumption | omega | exact hf | exact wb_tk hf (by decide) | (simp [up] <;> omega)), by (first | assumption | omega | exact hf | exact wb_tk hf (by decide) | (simp [up] <;> omega))⟩ (by decide) dX7_readsWalk_70 (fun h70 => ?_) (fun h70 => ?_)
        · skip
          refine v_iconst (pc := 77) C dX7_readsWalk_77 ?_
          exact v_zret (pc := 78) C hr hlk (by first | assumption | omega | exact hf | exact wb_tk hf (by decide) | (simp [up] <;> omega)) (⟨congrArg iI (by first | (exfalso; omega) | (unfold rwR; (repeat' first | rfl | omega | rw [if_pos (by first | assumption | omega)] | rw [if_neg (by first | assumption | omega)]))), by first | (exfalso; omega) | (unfold rwG; (repeat' first | rfl | omega | rw [if_pos (by first | assumption | omega)] | rw [if_neg (by first | assumption | omega)]); try exact tkG_no (by assumption))⟩) dX7_readsWalk_78
        · skip
          refine v_iconst (pc := 73) C dX7_readsWalk_73 ?_
          refine v_goto (pc := 74) C 78 (by decide) dX7_readsWalk_74 ?_
          exact v_zret (pc := 78) C hr hlk (by first | assumption | omega | exact hf | exact wb_tk hf (by decide) | (simp [up] <;> omega)) (⟨congrArg iI (by first | (exfalso; omega) | (unfold rwR; (repeat' first | rfl | omega | rw [if_pos (by first | assumption | omega)] | rw [if_neg (by first | assumption | omega)]))), by first | (exfalso; omega) | (unfold rwG; (repeat' first | rfl | omega | rw [if_pos (by first | assumption | omega)] | rw [if_neg (by first | assumption | omega)]); try exact tkG_no (by assumption))⟩) dX7_readsWalk_78
      · skip
        have h39c := z1_nef h39
        refine v_st (g2 := fsB g 0 3) C (tkG_no h39c) ?_
        refine v_aload_n (pc := 42) C 1 rfl rfl dX7_readsWalk_42 ?_
        refine v_bipush (pc := 43) C rfl dX7_readsWalk_43 ?_
        refine v_calliV (pc := 45) C cw_RX7_123 rcv_14 (ct_X7_takes l L (fsB g 0 3) 45 (by first | assumption | omega | exact hf | exact wb_tk hf (by decide) | (simp [up] <;> omega)) (by first | assumption | omega | exact hf | exact wb_tk hf (by decide) | (simp [up] <;> omega))) ⟨Nat.le_of_ble_eq_true rfl, Nat.le_of_ble_eq_true rfl⟩ rfl (Nat.le_of_ble_eq_true rfl) ⟨Nat.le_of_ble_eq_true rfl, Nat.le_of_ble_eq_true rfl⟩ rfl dX7_readsWalk_45 (fun r9 u9 hP_5 => ?_)
        obtain ⟨hP_5, hP_5b⟩ := hP_5
        rw [hP_5, hP_5b]
        clear hP_5 hP_5b r9 u9
        refine v_if_ne (pc := 48) C 53 z1_rg (by decide) dX7_readsWalk_48 (fun h48 => ?_) (fun h48 => ?_)
        · skip
          have h48c := z1_net h48
          refine v_aload_n (pc := 53) C 1 rfl rfl dX7_readsWalk_53 ?_
          refine v_iconst (pc := 54) C dX7_readsWalk_54 ?_
          refine v_bipush (pc := 55) C rfl dX7_readsWalk_55 ?_
          refine v_calliV (pc := 57) C cw_RX7_117 rcv_14 (ct_X7_digit l L (tkG (fsB g 0 3) 45) 1 9 (by first | assumption | omega | exact hf | exact wb_tk hf (by decide) | (simp [up] <;> omega)) (by first | assumption | omega | exact hf | exact wb_tk hf (by decide) | (simp [up] <;> omega)) (by first | assumption | omega | exact hf | exact wb_tk hf (by decide) | (simp [up] <;> omega))) ⟨Nat.le_of_ble_eq_true rfl, Nat.le_of_ble_eq_true rfl⟩ rfl (Nat.le_of_ble_eq_true rfl) ⟨Nat.le_of_ble_eq_true rfl, Nat.le_of_ble_eq_true rfl⟩ rfl dX7_readsWalk_57 (fun r9 u9 hP_6 => ?_)
          obtain ⟨hP_6, hP_6b⟩ := hP_6
          rw [hP_6, hP_6b]
          clear hP_6 hP_6b r9 u9
          refine v_istore_n (pc := 60) C [(2, .int (iI (dgR (tkG (fsB g 0 3) 45) 1 9))), (1, .int (iI (-1))), (0, .ref (adr L 14 0 0))] rfl (by decide) rfl dX7_readsWalk_60 ?_
          refine v_aload_n (pc := 61) C 2 rfl rfl dX7_readsWalk_61 ?_
          refine v_iload_n (pc := 62) C 1 rfl rfl dX7_readsWalk_62 ?_
          refine v_iload_n (pc := 63) C 0 rfl rfl dX7_readsWalk_63 ?_
          refine v_imul (pc := 64) C dX7_readsWalk_64 ?_
          refine pt_14_11 (pc := 65) C u_19_23 dX7_readsWalk_65 ?_
          refine v_iload_n (pc := 68) C 0 rfl rfl dX7_readsWalk_68 ?_
          refine v_iconst (pc := 69) C dX7_readsWalk_69 ?_
          refine v_icmp_eq (pc := 70) C 77 ⟨by (first | assumption | omega | exact hf | exact wb_tk hf (by decide) | (simp [up] <;> omega)), by (first | assumption | omega | exact hf | exact wb_tk hf (by decide) | (simp [up] <;> omega))⟩ ⟨by (first | assumption | omega | exact hf | exact wb_tk hf (by decide) | (simp [up] <;> omega)), by (first | assumption | omega | exact hf | exact wb_tk hf (by decide) | (simp [up] <;> omega))⟩ (by decide) dX7_readsWalk_70 (fun h70 => ?_) (fun h70 => ?_)
          · skip
            refine v_iconst (pc := 77) C dX7_readsWalk_77 ?_
            exact v_zret (pc := 78) C hr hlk (by first | assumption | omega | exact hf | exact wb_tk hf (by decide) | (simp [up] <;> omega)) (⟨congrArg iI (by first | (exfalso; omega) | (unfold rwR; (repeat' first | rfl | omega | rw [if_pos (by first | assumption | omega)] | rw [if_neg (by first | assumption | omega)]))), by first | (exfalso; omega) | (unfold rwG; (repeat' first | rfl | omega | rw [if_pos (by first | assumption | omega)] | rw [if_neg (by first | assumption | omega)]); try exact tkG_no (by assumption))⟩) dX7_readsWalk_78
          · skip
            refine v_iconst (pc := 73) C dX7_readsWalk_73 ?_
            refine v_goto (pc := 74) C 78 (by decide) dX7_readsWalk_74 ?_
            exact v_zret (pc := 78) C hr hlk (by first | assumption | omega | exact hf | exact wb_tk hf (by decide) | (simp [up] <;> omega)) (⟨congrArg iI (by first | (exfalso; omega) | (unfold rwR; (repeat' first | rfl | omega | rw [if_pos (by first | assumption | omega)] | rw [if_neg (by first | assumption | omega)]))), by first | (exfalso; omega) | (unfold rwG; (repeat' first | rfl | omega | rw [if_pos (by first | assumption | omega)] | rw [if_neg (by first | assumption | omega)]); try exact tkG_no (by assumption))⟩) dX7_readsWalk_78
        · skip
          have h48c := z1_nef h48
          refine v_iconst (pc := 51) C dX7_readsWalk_51 ?_
          exact v_zret (pc := 52) C hr hlk (by first | assumption | omega | exact hf | exact wb_tk hf (by decide) | (simp [up] <;> omega)) (⟨congrArg iI (by first | (exfalso; omega) | (unfold rwR; (repeat' first | rfl | omega | rw [if_pos (by first | assumption | omega)] | rw [if_neg (by first | assumption | omega)]))), by first | (exfalso; omega) | (unfold rwG; (repeat' first | rfl | omega | rw [if_pos (by first | assumption | omega)] | rw [if_neg (by first | assumption | omega)]); try exact tkG_no (by assumption))⟩) dX7_readsWalk_52
  · skip
    refine v_iconst (pc := 19) C dX7_readsWalk_19 ?_
    refine v_goto (pc := 20) C 24 (by decide) dX7_readsWalk_20 ?_
    refine v_istore_n (pc := 24) C [(1, .int (iI 1)), (0, .ref (adr L 14 0 0))] rfl (by decide) rfl dX7_readsWalk_24 ?_
    refine v_aload_n (pc := 25) C 1 rfl rfl dX7_readsWalk_25 ?_
    refine gt_14_10 (pc := 26) C u_19_22 dX7_readsWalk_26 (dgR g 0 3) (up_s) ?_
    refine v_iconst (pc := 29) C dX7_readsWalk_29 ?_
    refine v_icmp_eq (pc := 30) C 51 ⟨by (first | assumption | omega | exact hf | exact wb_tk hf (by decide) | (simp [up] <;> omega)), by (first | assumption | omega | exact hf | exact wb_tk hf (by decide) | (simp [up] <;> omega))⟩ ⟨by (first | assumption | omega | exact hf | exact wb_tk hf (by decide) | (simp [up] <;> omega)), by (first | assumption | omega | exact hf | exact wb_tk hf (by decide) | (simp [up] <;> omega))⟩ (by decide) dX7_readsWalk_30 (fun h30 => ?_) (fun h30 => ?_)
    · skip
      refine v_iconst (pc := 51) C dX7_readsWalk_51 ?_
      exact v_zret (pc := 52) C hr hlk (by first | assumption | omega | exact hf | exact wb_tk hf (by decide) | (simp [up] <;> omega)) (⟨congrArg iI (by first | (exfalso; omega) | (unfold rwR; (repeat' first | rfl | omega | rw [if_pos (by first | assumption | omega)] | rw [if_neg (by first | assumption | omega)]))), by first | (exfalso; omega) | (unfold rwG; (repeat' first | rfl | omega | rw [if_pos (by first | assumption | omega)] | rw [if_neg (by first | assumption | omega)]); try exact tkG_no (by assumption))⟩) dX7_readsWalk_52
    · skip
      refine v_aload_n (pc := 33) C 1 rfl rfl dX7_readsWalk_33 ?_
      refine v_bipush (pc := 34) C rfl dX7_readsWalk_34 ?_
      refine v_calliV (pc := 36) C cw_RX7_123 rcv_14 (ct_X7_takes l L (fsB g 0 3) 43 (by first | assumption | omega | exact hf | exact wb_tk hf (by decide) | (simp [up] <;> omega)) (by first | assumption | omega | exact hf | exact wb_tk hf (by decide) | (simp [up] <;> omega))) ⟨Nat.le_of_ble_eq_true rfl, Nat.le_of_ble_eq_true rfl⟩ rfl (Nat.le_of_ble_eq_true rfl) ⟨Nat.le_of_ble_eq_true rfl, Nat.le_of_ble_eq_true rfl⟩ rfl dX7_readsWalk_36 (fun r9 u9 hP_7 => ?_)
      obtain ⟨hP_7, hP_7b⟩ := hP_7
      rw [hP_7, hP_7b]
      clear hP_7 hP_7b r9 u9
      refine v_if_ne (pc := 39) C 53 z1_rg (by decide) dX7_readsWalk_39 (fun h39 => ?_) (fun h39 => ?_)
      · skip
        have h39c := z1_net h39
        refine v_aload_n (pc := 53) C 1 rfl rfl dX7_readsWalk_53 ?_
        refine v_iconst (pc := 54) C dX7_readsWalk_54 ?_
        refine v_bipush (pc := 55) C rfl dX7_readsWalk_55 ?_
        refine v_calliV (pc := 57) C cw_RX7_117 rcv_14 (ct_X7_digit l L (tkG (fsB g 0 3) 43) 1 9 (by first | assumption | omega | exact hf | exact wb_tk hf (by decide) | (simp [up] <;> omega)) (by first | assumption | omega | exact hf | exact wb_tk hf (by decide) | (simp [up] <;> omega)) (by first | assumption | omega | exact hf | exact wb_tk hf (by decide) | (simp [up] <;> omega))) ⟨Nat.le_of_ble_eq_true rfl, Nat.le_of_ble_eq_true rfl⟩ rfl (Nat.le_of_ble_eq_true rfl) ⟨Nat.le_of_ble_eq_true rfl, Nat.le_of_ble_eq_true rfl⟩ rfl dX7_readsWalk_57 (fun r9 u9 hP_8 => ?_)
        obtain ⟨hP_8, hP_8b⟩ := hP_8
        rw [hP_8, hP_8b]
        clear hP_8 hP_8b r9 u9
        refine v_istore_n (pc := 60) C [(2, .int (iI (dgR (tkG (fsB g 0 3) 43) 1 9))), (1, .int (iI 1)), (0, .ref (adr L 14 0 0))] rfl (by decide) rfl dX7_readsWalk_60 ?_
        refine v_aload_n (pc := 61) C 2 rfl rfl dX7_readsWalk_61 ?_
        refine v_iload_n (pc := 62) C 1 rfl rfl dX7_readsWalk_62 ?_
        refine v_iload_n (pc := 63) C 0 rfl rfl dX7_readsWalk_63 ?_
        refine v_imul (pc := 64) C dX7_readsWalk_64 ?_
        refine pt_14_11 (pc := 65) C u_19_23 dX7_readsWalk_65 ?_
        refine v_iload_n (pc := 68) C 0 rfl rfl dX7_readsWalk_68 ?_
        refine v_iconst (pc := 69) C dX7_readsWalk_69 ?_
        refine v_icmp_eq (pc := 70) C 77 ⟨by (first | assumption | omega | exact hf | exact wb_tk hf (by decide) | (simp [up] <;> omega)), by (first | assumption | omega | exact hf | exact wb_tk hf (by decide) | (simp [up] <;> omega))⟩ ⟨by (first | assumption | omega | exact hf | exact wb_tk hf (by decide) | (simp [up] <;> omega)), by (first | assumption | omega | exact hf | exact wb_tk hf (by decide) | (simp [up] <;> omega))⟩ (by decide) dX7_readsWalk_70 (fun h70 => ?_) (fun h70 => ?_)
        · skip
          refine v_iconst (pc := 77) C dX7_readsWalk_77 ?_
          exact v_zret (pc := 78) C hr hlk (by first | assumption | omega | exact hf | exact wb_tk hf (by decide) | (simp [up] <;> omega)) (⟨congrArg iI (by first | (exfalso; omega) | (unfold rwR; (repeat' first | rfl | omega | rw [if_pos (by first | assumption | omega)] | rw [if_neg (by first | assumption | omega)]))), by first | (exfalso; omega) | (unfold rwG; (repeat' first | rfl | omega | rw [if_pos (by first | assumption | omega)] | rw [if_neg (by first | assumption | omega)]); try exact tkG_no (by assumption))⟩) dX7_readsWalk_78
        · skip
          refine v_iconst (pc := 73) C dX7_readsWalk_73 ?_
          refine v_goto (pc := 74) C 78 (by decide) dX7_readsWalk_74 ?_
          exact v_zret (pc := 78) C hr hlk (by first | assumption | omega | exact hf | exact wb_tk hf (by decide) | (simp [up] <;> omega)) (⟨congrArg iI (by first | (exfalso; omega) | (unfold rwR; (repeat' first | rfl | omega | rw [if_pos (by first | assumption | omega)] | rw [if_neg (by first | assumption | omega)]))), by first | (exfalso; omega) | (unfold rwG; (repeat' first | rfl | omega | rw [if_pos (by first | assumption | omega)] | rw [if_neg (by first | assumption | omega)]); try exact tkG_no (by assumption))⟩) dX7_readsWalk_78
      · skip
        have h39c := z1_nef h39
        refine v_st (g2 := fsB g 0 3) C (tkG_no h39c) ?_
        refine v_aload_n (pc := 42) C 1 rfl rfl dX7_readsWalk_42 ?_
        refine v_bipush (pc := 43) C rfl dX7_readsWalk_43 ?_
        refine v_calliV (pc := 45) C cw_RX7_123 rcv_14 (ct_X7_takes l L (fsB g 0 3) 45 (by first | assumption | omega | exact hf | exact wb_tk hf (by decide) | (simp [up] <;> omega)) (by first | assumption | omega | exact hf | exact wb_tk hf (by decide) | (simp [up] <;> omega))) ⟨Nat.le_of_ble_eq_true rfl, Nat.le_of_ble_eq_true rfl⟩ rfl (Nat.le_of_ble_eq_true rfl) ⟨Nat.le_of_ble_eq_true rfl, Nat.le_of_ble_eq_true rfl⟩ rfl dX7_readsWalk_45 (fun r9 u9 hP_9 => ?_)
        obtain ⟨hP_9, hP_9b⟩ := hP_9
        rw [hP_9, hP_9b]
        clear hP_9 hP_9b r9 u9
        refine v_if_ne (pc := 48) C 53 z1_rg (by decide) dX7_readsWalk_48 (fun h48 => ?_) (fun h48 => ?_)
        · skip
          have h48c := z1_net h48
          refine v_aload_n (pc := 53) C 1 rfl rfl dX7_readsWalk_53 ?_
          refine v_iconst (pc := 54) C dX7_readsWalk_54 ?_
          refine v_bipush (pc := 55) C rfl dX7_readsWalk_55 ?_
          refine v_calliV (pc := 57) C cw_RX7_117 rcv_14 (ct_X7_digit l L (tkG (fsB g 0 3) 45) 1 9 (by first | assumption | omega | exact hf | exact wb_tk hf (by decide) | (simp [up] <;> omega)) (by first | assumption | omega | exact hf | exact wb_tk hf (by decide) | (simp [up] <;> omega)) (by first | assumption | omega | exact hf | exact wb_tk hf (by decide) | (simp [up] <;> omega))) ⟨Nat.le_of_ble_eq_true rfl, Nat.le_of_ble_eq_true rfl⟩ rfl (Nat.le_of_ble_eq_true rfl) ⟨Nat.le_of_ble_eq_true rfl, Nat.le_of_ble_eq_true rfl⟩ rfl dX7_readsWalk_57 (fun r9 u9 hP_10 => ?_)
          obtain ⟨hP_10, hP_10b⟩ := hP_10
          rw [hP_10, hP_10b]
          clear hP_10 hP_10b r9 u9
          refine v_istore_n (pc := 60) C [(2, .int (iI (dgR (tkG (fsB g 0 3) 45) 1 9))), (1, .int (iI 1)), (0, .ref (adr L 14 0 0))] rfl (by decide) rfl dX7_readsWalk_60 ?_
          refine v_aload_n (pc := 61) C 2 rfl rfl dX7_readsWalk_61 ?_
          refine v_iload_n (pc := 62) C 1 rfl rfl dX7_readsWalk_62 ?_
          refine v_iload_n (pc := 63) C 0 rfl rfl dX7_readsWalk_63 ?_
          refine v_imul (pc := 64) C dX7_readsWalk_64 ?_
          refine pt_14_11 (pc := 65) C u_19_23 dX7_readsWalk_65 ?_
          refine v_iload_n (pc := 68) C 0 rfl rfl dX7_readsWalk_68 ?_
          refine v_iconst (pc := 69) C dX7_readsWalk_69 ?_
          refine v_icmp_eq (pc := 70) C 77 ⟨by (first | assumption | omega | exact hf | exact wb_tk hf (by decide) | (simp [up] <;> omega)), by (first | assumption | omega | exact hf | exact wb_tk hf (by decide) | (simp [up] <;> omega))⟩ ⟨by (first | assumption | omega | exact hf | exact wb_tk hf (by decide) | (simp [up] <;> omega)), by (first | assumption | omega | exact hf | exact wb_tk hf (by decide) | (simp [up] <;> omega))⟩ (by decide) dX7_readsWalk_70 (fun h70 => ?_) (fun h70 => ?_)
          · skip
            refine v_iconst (pc := 77) C dX7_readsWalk_77 ?_
            exact v_zret (pc := 78) C hr hlk (by first | assumption | omega | exact hf | exact wb_tk hf (by decide) | (simp [up] <;> omega)) (⟨congrArg iI (by first | (exfalso; omega) | (unfold rwR; (repeat' first | rfl | omega | rw [if_pos (by first | assumption | omega)] | rw [if_neg (by first | assumption | omega)]))), by first | (exfalso; omega) | (unfold rwG; (repeat' first | rfl | omega | rw [if_pos (by first | assumption | omega)] | rw [if_neg (by first | assumption | omega)]); try exact tkG_no (by assumption))⟩) dX7_readsWalk_78
          · skip
            refine v_iconst (pc := 73) C dX7_readsWalk_73 ?_
            refine v_goto (pc := 74) C 78 (by decide) dX7_readsWalk_74 ?_
            exact v_zret (pc := 78) C hr hlk (by first | assumption | omega | exact hf | exact wb_tk hf (by decide) | (simp [up] <;> omega)) (⟨congrArg iI (by first | (exfalso; omega) | (unfold rwR; (repeat' first | rfl | omega | rw [if_pos (by first | assumption | omega)] | rw [if_neg (by first | assumption | omega)]))), by first | (exfalso; omega) | (unfold rwG; (repeat' first | rfl | omega | rw [if_pos (by first | assumption | omega)] | rw [if_neg (by first | assumption | omega)]); try exact tkG_no (by assumption))⟩) dX7_readsWalk_78
        · skip
          have h48c := z1_nef h48
          refine v_iconst (pc := 51) C dX7_readsWalk_51 ?_
          exact v_zret (pc := 52) C hr hlk (by first | assumption | omega | exact hf | exact wb_tk hf (by decide) | (simp [up] <;> omega)) (⟨congrArg iI (by first | (exfalso; omega) | (unfold rwR; (repeat' first | rfl | omega | rw [if_pos (by first | assumption | omega)] | rw [if_neg (by first | assumption | omega)]))), by first | (exfalso; omega) | (unfold rwG; (repeat' first | rfl | omega | rw [if_pos (by first | assumption | omega)] | rw [if_neg (by first | assumption | omega)]); try exact tkG_no (by assumption))⟩) dX7_readsWalk_52
set_option maxHeartbeats 4000000 in
set_option maxRecDepth 100000 in
theorem ct_X7_readsTurns (l : Launch) (L : Lay) (g : St) (hb : wb g) : Met l yX7_readsTurns (.code yX7_readsTurns cX7_readsTurns 2 (some .boolean) :: wsL_law) { frames := 2, cells := 0, slots := 0, locals := 45 } (va_Pc [.ref (adr L 14 0 0)] (HS L g)) (va_Qi (fun (r9 : Int32) (u9 : St) => r9 = iI (rtR g) ∧ u9 = (rtG g)) (fun u t => HS L u t) (Af L)) 0 0 (Af L) := by
  refine ct_mk (by decide +kernel) (Nat.le_of_ble_eq_true rfl) ?_
  intro pp ee ss mm bel mth cx C hr hlk
  show V pp l ee { frames := 2, cells := 0, slots := 0, locals := 45 } ss mm ([.ref (adr L 14 0 0)]).toArray bel mth cx 2 L (HH L g) 0 0 _ 0 [(0, .ref (adr L 14 0 0))] []
  have hf := wb_fsB (b := 9) hb (show (0 : Int) ≤ 1 by decide)
  have hd1 := dgR_in (g := g) (show (0 : Int) ≤ 1 by decide) (Int.le_refl 9)
  have hd2 := dgR_in (g := fsB g 1 9) (Int.le_refl 0) (Int.le_refl 9)
  refine v_aload_n (pc := 0) C 0 rfl rfl dX7_readsTurns_0 ?_
  refine v_aload_n (pc := 1) C 0 rfl rfl dX7_readsTurns_1 ?_
  refine v_iconst (pc := 2) C dX7_readsTurns_2 ?_
  refine v_bipush (pc := 3) C rfl dX7_readsTurns_3 ?_
  refine v_calliV (pc := 5) C cw_RX7_117 rcv_14 (ct_X7_digit l L g 1 9 (by first | assumption | omega | exact hf | (simp [up] <;> omega)) (by first | assumption | omega | exact hf | (simp [up] <;> omega)) (by first | assumption | omega | exact hf | (simp [up] <;> omega))) ⟨Nat.le_of_ble_eq_true rfl, Nat.le_of_ble_eq_true rfl⟩ rfl (Nat.le_of_ble_eq_true rfl) ⟨Nat.le_of_ble_eq_true rfl, Nat.le_of_ble_eq_true rfl⟩ rfl dX7_readsTurns_5 (fun r9 u9 hP_1 => ?_)
  obtain ⟨hP_1, hP_1b⟩ := hP_1
  rw [hP_1, hP_1b]
  clear hP_1 hP_1b r9 u9
  refine pt_14_10 (pc := 8) C u_19_22 dX7_readsTurns_8 ?_
  refine v_st (g2 := fsB g 1 9) C (rfl) ?_
  refine v_aload_n (pc := 11) C 0 rfl rfl dX7_readsTurns_11 ?_
  refine gt_14_10 (pc := 12) C u_19_22 dX7_readsTurns_12 (dgR g 1 9) (up_s) ?_
  refine v_iconst (pc := 15) C dX7_readsTurns_15 ?_
  refine v_icmp_ne (pc := 16) C 23 ⟨by (first | assumption | omega | exact hf | (simp [up] <;> omega)), by (first | assumption | omega | exact hf | (simp [up] <;> omega))⟩ ⟨by (first | assumption | omega | exact hf | (simp [up] <;> omega)), by (first | assumption | omega | exact hf | (simp [up] <;> omega))⟩ (by decide) dX7_readsTurns_16 (fun h16 => ?_) (fun h16 => ?_)
  · skip
    refine v_aload_n (pc := 23) C 0 rfl rfl dX7_readsTurns_23 ?_
    refine v_iconst (pc := 24) C dX7_readsTurns_24 ?_
    refine v_bipush (pc := 25) C rfl dX7_readsTurns_25 ?_
    refine v_calliV (pc := 27) C cw_RX7_117 rcv_14 (ct_X7_digit l L (fsB g 1 9) 0 9 (by first | assumption | omega | exact hf | (simp [up] <;> omega)) (by first | assumption | omega | exact hf | (simp [up] <;> omega)) (by first | assumption | omega | exact hf | (simp [up] <;> omega))) ⟨Nat.le_of_ble_eq_true rfl, Nat.le_of_ble_eq_true rfl⟩ rfl (Nat.le_of_ble_eq_true rfl) ⟨Nat.le_of_ble_eq_true rfl, Nat.le_of_ble_eq_true rfl⟩ rfl dX7_readsTurns_27 (fun r9 u9 hP_2 => ?_)
    obtain ⟨hP_2, hP_2b⟩ := hP_2
    rw [hP_2, hP_2b]
    clear hP_2 hP_2b r9 u9
    refine v_istore_n (pc := 30) C [(1, .int (iI (dgR (fsB g 1 9) 0 9))), (0, .ref (adr L 14 0 0))] rfl (by decide) rfl dX7_readsTurns_30 ?_
    refine v_aload_n (pc := 31) C 1 rfl rfl dX7_readsTurns_31 ?_
    refine v_iload_n (pc := 32) C 0 rfl rfl dX7_readsTurns_32 ?_
    refine v_iconst (pc := 33) C dX7_readsTurns_33 ?_
    refine v_icmp_ne (pc := 34) C 44 ⟨by (first | assumption | omega | exact hf | (simp [up] <;> omega)), by (first | assumption | omega | exact hf | (simp [up] <;> omega))⟩ ⟨by (first | assumption | omega | exact hf | (simp [up] <;> omega)), by (first | assumption | omega | exact hf | (simp [up] <;> omega))⟩ (by decide) dX7_readsTurns_34 (fun h34 => ?_) (fun h34 => ?_)
    · skip
      refine v_bipush (pc := 44) C rfl dX7_readsTurns_44 ?_
      refine v_aload_n (pc := 46) C 1 rfl rfl dX7_readsTurns_46 ?_
      refine gt_14_10 (pc := 47) C u_19_22 dX7_readsTurns_47 (dgR g 1 9) (by unfold fsB; first | exact up_s | exact dg_10 _ _ _ _) ?_
      refine v_imul (pc := 50) C dX7_readsTurns_50 ?_
      refine v_iload_n (pc := 51) C 0 rfl rfl dX7_readsTurns_51 ?_
      refine v_iadd (pc := 52) C dX7_readsTurns_52 ?_
      refine pt_14_10 (pc := 53) C u_19_22 dX7_readsTurns_53 ?_
      refine v_aload_n (pc := 56) C 1 rfl rfl dX7_readsTurns_56 ?_
      refine gt_14_10 (pc := 57) C u_19_22 dX7_readsTurns_57 ((10 * (dgR g 1 9)) + (dgR (fsB g 1 9) 0 9)) (by simp [up]) ?_
      refine v_iconst (pc := 60) C dX7_readsTurns_60 ?_
      refine v_icmp_eq (pc := 61) C 68 ⟨by (first | assumption | omega | exact hf | (simp [up] <;> omega)), by (first | assumption | omega | exact hf | (simp [up] <;> omega))⟩ ⟨by (first | assumption | omega | exact hf | (simp [up] <;> omega)), by (first | assumption | omega | exact hf | (simp [up] <;> omega))⟩ (by decide) dX7_readsTurns_61 (fun h61 => ?_) (fun h61 => ?_)
      · skip
        refine v_iconst (pc := 68) C dX7_readsTurns_68 ?_
        exact v_zret (pc := 69) C hr hlk (by first | assumption | omega | exact hf | (simp [up] <;> omega)) (⟨congrArg iI (by first | (exfalso; omega) | (unfold rtR; (repeat' first | rfl | omega | rw [if_pos (by first | assumption | omega)] | rw [if_neg (by first | assumption | omega)]))), by first | (exfalso; omega) | (unfold rtG; (repeat' first | rfl | omega | rw [if_pos (by first | assumption | omega)] | rw [if_neg (by first | assumption | omega)]))⟩) dX7_readsTurns_69
      · skip
        refine v_iconst (pc := 64) C dX7_readsTurns_64 ?_
        refine v_goto (pc := 65) C 69 (by decide) dX7_readsTurns_65 ?_
        exact v_zret (pc := 69) C hr hlk (by first | assumption | omega | exact hf | (simp [up] <;> omega)) (⟨congrArg iI (by first | (exfalso; omega) | (unfold rtR; (repeat' first | rfl | omega | rw [if_pos (by first | assumption | omega)] | rw [if_neg (by first | assumption | omega)]))), by first | (exfalso; omega) | (unfold rtG; (repeat' first | rfl | omega | rw [if_pos (by first | assumption | omega)] | rw [if_neg (by first | assumption | omega)]))⟩) dX7_readsTurns_69
    · skip
      refine v_aload_n (pc := 37) C 1 rfl rfl dX7_readsTurns_37 ?_
      refine gt_14_10 (pc := 38) C u_19_22 dX7_readsTurns_38 (dgR g 1 9) (by unfold fsB; first | exact up_s | exact dg_10 _ _ _ _) ?_
      refine v_goto (pc := 41) C 53 (by decide) dX7_readsTurns_41 ?_
      refine pt_14_10 (pc := 53) C u_19_22 dX7_readsTurns_53 ?_
      refine v_aload_n (pc := 56) C 1 rfl rfl dX7_readsTurns_56 ?_
      refine gt_14_10 (pc := 57) C u_19_22 dX7_readsTurns_57 (dgR g 1 9) (by simp [up]) ?_
      refine v_iconst (pc := 60) C dX7_readsTurns_60 ?_
      refine v_icmp_eq (pc := 61) C 68 ⟨by (first | assumption | omega | exact hf | (simp [up] <;> omega)), by (first | assumption | omega | exact hf | (simp [up] <;> omega))⟩ ⟨by (first | assumption | omega | exact hf | (simp [up] <;> omega)), by (first | assumption | omega | exact hf | (simp [up] <;> omega))⟩ (by decide) dX7_readsTurns_61 (fun h61 => ?_) (fun h61 => ?_)
      · skip
        exfalso; omega
      · skip
        refine v_iconst (pc := 64) C dX7_readsTurns_64 ?_
        refine v_goto (pc := 65) C 69 (by decide) dX7_readsTurns_65 ?_
        exact v_zret (pc := 69) C hr hlk (by first | assumption | omega | exact hf | (simp [up] <;> omega)) (⟨congrArg iI (by first | (exfalso; omega) | (unfold rtR; (repeat' first | rfl | omega | rw [if_pos (by first | assumption | omega)] | rw [if_neg (by first | assumption | omega)]))), by first | (exfalso; omega) | (unfold rtG; (repeat' first | rfl | omega | rw [if_pos (by first | assumption | omega)] | rw [if_neg (by first | assumption | omega)]))⟩) dX7_readsTurns_69
  · skip
    refine v_iconst (pc := 19) C dX7_readsTurns_19 ?_
    refine v_goto (pc := 20) C 30 (by decide) dX7_readsTurns_20 ?_
    refine v_istore_n (pc := 30) C [(1, .int (iI (-1))), (0, .ref (adr L 14 0 0))] rfl (by decide) rfl dX7_readsTurns_30 ?_
    refine v_aload_n (pc := 31) C 1 rfl rfl dX7_readsTurns_31 ?_
    refine v_iload_n (pc := 32) C 0 rfl rfl dX7_readsTurns_32 ?_
    refine v_iconst (pc := 33) C dX7_readsTurns_33 ?_
    refine v_icmp_ne (pc := 34) C 44 ⟨by (first | assumption | omega | exact hf | (simp [up] <;> omega)), by (first | assumption | omega | exact hf | (simp [up] <;> omega))⟩ ⟨by (first | assumption | omega | exact hf | (simp [up] <;> omega)), by (first | assumption | omega | exact hf | (simp [up] <;> omega))⟩ (by decide) dX7_readsTurns_34 (fun h34 => ?_) (fun h34 => ?_)
    · skip
      exfalso; omega
    · skip
      refine v_aload_n (pc := 37) C 1 rfl rfl dX7_readsTurns_37 ?_
      refine gt_14_10 (pc := 38) C u_19_22 dX7_readsTurns_38 (dgR g 1 9) (by unfold fsB; first | exact up_s | exact dg_10 _ _ _ _) ?_
      refine v_goto (pc := 41) C 53 (by decide) dX7_readsTurns_41 ?_
      refine pt_14_10 (pc := 53) C u_19_22 dX7_readsTurns_53 ?_
      refine v_aload_n (pc := 56) C 1 rfl rfl dX7_readsTurns_56 ?_
      refine gt_14_10 (pc := 57) C u_19_22 dX7_readsTurns_57 (dgR g 1 9) (by simp [up]) ?_
      refine v_iconst (pc := 60) C dX7_readsTurns_60 ?_
      refine v_icmp_eq (pc := 61) C 68 ⟨by (first | assumption | omega | exact hf | (simp [up] <;> omega)), by (first | assumption | omega | exact hf | (simp [up] <;> omega))⟩ ⟨by (first | assumption | omega | exact hf | (simp [up] <;> omega)), by (first | assumption | omega | exact hf | (simp [up] <;> omega))⟩ (by decide) dX7_readsTurns_61 (fun h61 => ?_) (fun h61 => ?_)
      · skip
        refine v_iconst (pc := 68) C dX7_readsTurns_68 ?_
        exact v_zret (pc := 69) C hr hlk (by first | assumption | omega | exact hf | (simp [up] <;> omega)) (⟨congrArg iI (by first | (exfalso; omega) | (unfold rtR; (repeat' first | rfl | omega | rw [if_pos (by first | assumption | omega)] | rw [if_neg (by first | assumption | omega)]))), by first | (exfalso; omega) | (unfold rtG; (repeat' first | rfl | omega | rw [if_pos (by first | assumption | omega)] | rw [if_neg (by first | assumption | omega)]))⟩) dX7_readsTurns_69
      · skip
        exfalso; omega
