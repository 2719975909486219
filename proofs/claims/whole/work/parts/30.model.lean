/-! the reference: one row of numbers -/
def okM (s : Int → Int) (d e : Int) : Prop := (0 ≤ s (34 + 5 * e + 0) ∧ s (34 + 5 * e + 0) < 4) ∧ (0 ≤ s (34 + 5 * e + 1) ∧ s (34 + 5 * e + 1) ≤ s 0) ∧ (0 ≤ s (34 + 5 * e + 2) ∧ s (34 + 5 * e + 2) ≤ 9) ∧ (s 3 + d ≤ s (34 + 5 * e + 3) ∧ s (34 + 5 * e + 3) ≤ s 3 + 200) ∧ (s (34 + 5 * e + 4) = 0 ∨ s (34 + 5 * e + 4) = 1)
def wm (s : Int → Int) (d : Int) : Prop := (8 ≤ s 0 ∧ s 0 ≤ 40) ∧ (1 ≤ s 1 ∧ s 1 ≤ 9) ∧ (0 ≤ s 2 ∧ s 2 ≤ 5) ∧ (0 ≤ s 4 ∧ s 4 ≤ s 0) ∧ (1 ≤ s 5 ∧ s 5 ≤ 9) ∧ (s 6 = 0 ∨ s 6 = 1) ∧ (0 ≤ s 3 ∧ s 3 ≤ 100000) ∧ (0 ≤ s 9 ∧ s 9 ≤ 24) ∧ (∀ p, 0 ≤ p → p < 4 → 0 ≤ s (10 + 6 * p + 0) ∧ s (10 + 6 * p + 0) ≤ s 0) ∧ (∀ e, 0 ≤ e → e < s 9 → okM s d e)
def mOf (g : St) (p : Int) : Int → Bool := fun e => decide (g 15 0 0 (34 + 5 * e + 0) = p)
def mDu (g : St) (p t : Int) : Int → Bool := fun e => decide (g 15 0 0 (34 + 5 * e + 1) = p ∧ g 15 0 0 (34 + 5 * e + 3) = t)
abbrev mUw (g : St) (p : Int) : Int := cn (mOf g p) (g 15 0 0 9).toNat
abbrev mCo (g : St) (p t : Int) : Int := cn (mDu g p t) (g 15 0 0 9).toNat
abbrev mDl (g : St) (p w : Int) : Int := dly (g 15 0 0 0) (g 15 0 0 1) (g 15 0 0 2) p w
theorem mDl_in {g : St} {d p w : Int} (h : wm (g 15 0 0) d) (hp : 0 ≤ p ∧ p ≤ g 15 0 0 0) : 1 ≤ mDl g p w ∧ mDl g p w ≤ 100 := dly_in h.1.2 h.2.1 h.2.2.1 hp
def shM (g : St) (n : Int) : St := fun f k j x => if f = 16 ∧ k = 0 ∧ j = 0 ∧ (0 ≤ x ∧ x < n) then g 16 0 0 (x + 154) else g f k j x
def cpM (g : St) (m n : Int) : St := fun f k j x => if f = 16 ∧ k = 0 ∧ j = 0 ∧ (m * 154 ≤ x ∧ x < m * 154 + n) then g 15 0 0 (x - m * 154) else g f k j x
theorem shM_0 (g : St) : shM g 0 = g := by funext f k j x; simp only [shM]; rw [if_neg (by omega)]
theorem shM_s (g : St) (i : Int) (h : 0 ≤ i) : up (shM g i) 16 0 0 i (g 16 0 0 (i + 154)) = shM g (i + 1) := by
  funext f k j x; simp only [shM, up]; grind
theorem cpM_0 (g : St) (m : Int) : cpM g m 0 = g := by funext f k j x; simp only [cpM]; rw [if_neg (by omega)]
theorem cpM_s (g : St) (m i : Int) (h : 0 ≤ i) : up (cpM g m i) 16 0 0 (m * 154 + i) (g 15 0 0 i) = cpM g m (i + 1) := by
  funext f k j x; simp only [cpM, up]
  by_cases hx : x = m * 154 + i
  · subst hx; rw [show m * 154 + i - m * 154 = i by omega]; grind
  · grind
def svA (g : St) : St := if g 14 0 0 3 = 6 then up (shM g 770) 14 0 0 3 (g 14 0 0 3 - 1) else g
def svM (g : St) : St := up (cpM (svA g) (svA g 14 0 0 3) 154) 14 0 0 3 (svA g 14 0 0 3 + 1)
theorem svA_3 {g : St} (h : 0 ≤ g 14 0 0 3 ∧ g 14 0 0 3 ≤ 6) : 0 ≤ svA g 14 0 0 3 ∧ svA g 14 0 0 3 ≤ 5 := by
  unfold svA; split
  · rw [up_s]; omega
  · omega
def mbG (g : St) (n : Nat) : St := up (up g 14 0 0 12 (bwalk (g 15 0 0 0) n (g 14 0 0 12, g 14 0 0 13)).1) 14 0 0 13 (bwalk (g 15 0 0 0) n (g 14 0 0 12, g 14 0 0 13)).2
theorem mb_0 (g : St) : mbG g 0 = g := by funext f k j x; simp only [mbG, bwalk, up]; grind
theorem mb_s (g : St) (n : Nat) {r p : Int} (hr : r = stepR (bwalk (g 15 0 0 0) n (g 14 0 0 12, g 14 0 0 13)).1 (bwalk (g 15 0 0 0) n (g 14 0 0 12, g 14 0 0 13)).2 (g 15 0 0 0)) (hp : p = stepP (bwalk (g 15 0 0 0) n (g 14 0 0 12, g 14 0 0 13)).1 (bwalk (g 15 0 0 0) n (g 14 0 0 12, g 14 0 0 13)).2 (g 15 0 0 0)) : up (up (mbG g n) 14 0 0 13 r) 14 0 0 12 p = mbG g (n + 1) := by
  have h1 : (bwalk (g 15 0 0 0) (n + 1) (g 14 0 0 12, g 14 0 0 13)).1 = p := by rw [hp]; rfl
  have h2 : (bwalk (g 15 0 0 0) (n + 1) (g 14 0 0 12, g 14 0 0 13)).2 = r := by rw [hr]; rfl
  unfold mbG
  rw [h1, h2]
  funext f k j x; simp only [up]; grind
def adM (g : St) (p w y : Int) : St := up (up (up (up (up (up g 15 0 0 (34 + 5 * g 15 0 0 9 + 0) p) 15 0 0 (34 + 5 * g 15 0 0 9 + 1) (g 15 0 0 (10 + 6 * p + 0))) 15 0 0 (34 + 5 * g 15 0 0 9 + 2) w) 15 0 0 (34 + 5 * g 15 0 0 9 + 3) (g 15 0 0 3 + mDl g (g 15 0 0 (10 + 6 * p + 0)) y)) 15 0 0 (34 + 5 * g 15 0 0 9 + 4) y) 15 0 0 9 (g 15 0 0 9 + 1)
abbrev mvOM (g : St) (p b : Int) : Prop := g 15 0 0 (10 + 6 * p + 0) + b < 0 ∨ g 15 0 0 0 < g 15 0 0 (10 + 6 * p + 0) + b
def mvRM (g : St) (p b : Int) : Int := if mvOM g p b then -1 else g 15 0 0 (10 + 6 * p + 0) + b
def mvGM (g : St) (p b : Int) : St := if mvOM g p b then up g 15 0 0 7 (g 15 0 0 7 + 1) else up g 15 0 0 (10 + 6 * p + 0) (g 15 0 0 (10 + 6 * p + 0) + b)

theorem cw_RX7_29 : CWs RX7 29 yX7_within cX7_within 3 (some .boolean) 3 := ⟨u_8_14, u_8_15, u_1_5, u_8_16, by decide +kernel⟩
theorem cw_RX7_33 : CW RX7 33 RX7 yX7_ofPlayer cX7_ofPlayer 3 (some .int) 2 := ⟨u_9_18, u_9_19, u_9_20, u_1_5, u_9_21, by decide +kernel⟩
theorem cw_RX7_54 : CW RX7 54 RX7 yX7_ofEcho cX7_ofEcho 3 (some .int) 2 := ⟨u_9_10, u_9_11, u_9_12, u_1_5, u_9_13, by decide +kernel⟩
theorem cw_RX7_57 : CW RX7 57 RX7 yX7_delay cX7_delay 5 (some .int) 2 := ⟨u_9_22, u_9_23, u_10_0, u_1_5, u_10_1, by decide +kernel⟩
set_option maxHeartbeats 4000000 in
set_option maxRecDepth 100000 in
theorem ct_X7_thrown (l : Launch) (L : Lay) (g : St)  : Met l yX7_thrown (.code yX7_thrown cX7_thrown 1 (some .int) :: wsL_law) { frames := 0, cells := 0, slots := 0, locals := 0 } (va_Pc [.ref (adr L 14 0 0)] (HS L g)) (va_Qi (fun (r9 : Int32) (u9 : St) => r9 = iI (g 14 0 0 0) ∧ u9 = g) (fun u t => HS L u t) (Af L)) 0 0 (Af L) := by
  refine ct_mk (by decide +kernel) (Nat.le_of_ble_eq_true rfl) ?_
  intro pp ee ss mm bel mth cx C hr hlk
  show V pp l ee { frames := 0, cells := 0, slots := 0, locals := 0 } ss mm ([.ref (adr L 14 0 0)]).toArray bel mth cx 1 L (HH L g) 0 0 _ 0 [(0, .ref (adr L 14 0 0))] []
  refine v_aload_n (pc := 0) C 0 rfl rfl dX7_thrown_0 ?_
  refine gt_14_0 (pc := 1) C u_8_10 dX7_thrown_1 (g 14 0 0 0) (rfl) ?_
  exact v_iret (pc := 4) C hr hlk (⟨rfl, rfl⟩) dX7_thrown_4
set_option maxHeartbeats 4000000 in
set_option maxRecDepth 100000 in
theorem ct_X7_fails (l : Launch) (L : Lay) (g : St) (a : Int)  : Met l yX7_fails (.code yX7_fails cX7_fails 2 (some .int) :: wsL_law) { frames := 0, cells := 0, slots := 0, locals := 0 } (va_Pc [.ref (adr L 14 0 0), .int (iI a)] (HS L g)) (va_Qi (fun (r9 : Int32) (u9 : St) => r9 = iI 0 ∧ u9 = (up g 14 0 0 0 a)) (fun u t => HS L u t) (Af L)) 0 0 (Af L) := by
  refine ct_mk (by decide +kernel) (Nat.le_of_ble_eq_true rfl) ?_
  intro pp ee ss mm bel mth cx C hr hlk
  show V pp l ee { frames := 0, cells := 0, slots := 0, locals := 0 } ss mm ([.ref (adr L 14 0 0), .int (iI a)]).toArray bel mth cx 2 L (HH L g) 0 0 _ 0 [(0, .ref (adr L 14 0 0)), (1, .int (iI a))] []
  refine v_aload_n (pc := 0) C 0 rfl rfl dX7_fails_0 ?_
  refine v_iload_n (pc := 1) C 1 rfl rfl dX7_fails_1 ?_
  refine pt_14_0 (pc := 2) C u_8_10 dX7_fails_2 ?_
  refine v_iconst (pc := 5) C dX7_fails_5 ?_
  exact v_iret (pc := 6) C hr hlk (⟨rfl, rfl⟩) dX7_fails_6
set_option maxHeartbeats 4000000 in
set_option maxRecDepth 100000 in
theorem ct_X7_within (l : Launch) (L : Lay) (g : St) (v a b : Int) (hrv : rg v) (hra : rg a) (hrb : rg b) : Met l yX7_within (.code yX7_within cX7_within 3 (some .boolean) :: wsL_law) { frames := 0, cells := 0, slots := 0, locals := 0 } (va_Pc [.int (iI v), .int (iI a), .int (iI b)] (HS L g)) (va_Qi (fun (r9 : Int32) (u9 : St) => r9 = iI (if a ≤ v ∧ v ≤ b then 1 else 0) ∧ u9 = g) (fun u t => HS L u t) (Af L)) 0 0 (Af L) := by
  refine ct_mk (by decide +kernel) (Nat.le_of_ble_eq_true rfl) ?_
  intro pp ee ss mm bel mth cx C hr hlk
  show V pp l ee { frames := 0, cells := 0, slots := 0, locals := 0 } ss mm ([.int (iI v), .int (iI a), .int (iI b)]).toArray bel mth cx 3 L (HH L g) 0 0 _ 0 [(0, .int (iI v)), (1, .int (iI a)), (2, .int (iI b))] []
  unfold rg at hrv hra hrb
  refine v_iload_n (pc := 0) C 0 rfl rfl dX7_within_0 ?_
  refine v_iload_n (pc := 1) C 1 rfl rfl dX7_within_1 ?_
  refine v_icmp_lt (pc := 2) C 14 ⟨by (first | assumption | omega | (simp [bl, up] <;> omega)), by (first | assumption | omega | (simp [bl, up] <;> omega))⟩ ⟨by (first | assumption | omega | (simp [bl, up] <;> omega)), by (first | assumption | omega | (simp [bl, up] <;> omega))⟩ (by decide) dX7_within_2 (fun h2 => ?_) (fun h2 => ?_)
  · skip
    refine v_iconst (pc := 14) C dX7_within_14 ?_
    exact v_zret (pc := 15) C hr hlk (by first | assumption | omega | (simp [bl, up] <;> omega)) (⟨congrArg iI (by grind), rfl⟩) dX7_within_15
  · skip
    refine v_iload_n (pc := 5) C 0 rfl rfl dX7_within_5 ?_
    refine v_iload_n (pc := 6) C 2 rfl rfl dX7_within_6 ?_
    refine v_icmp_gt (pc := 7) C 14 ⟨by (first | assumption | omega | (simp [bl, up] <;> omega)), by (first | assumption | omega | (simp [bl, up] <;> omega))⟩ ⟨by (first | assumption | omega | (simp [bl, up] <;> omega)), by (first | assumption | omega | (simp [bl, up] <;> omega))⟩ (by decide) dX7_within_7 (fun h7 => ?_) (fun h7 => ?_)
    · skip
      refine v_iconst (pc := 14) C dX7_within_14 ?_
      exact v_zret (pc := 15) C hr hlk (by first | assumption | omega | (simp [bl, up] <;> omega)) (⟨congrArg iI (by grind), rfl⟩) dX7_within_15
    · skip
      refine v_iconst (pc := 10) C dX7_within_10 ?_
      refine v_goto (pc := 11) C 15 (by decide) dX7_within_11 ?_
      exact v_zret (pc := 15) C hr hlk (by first | assumption | omega | (simp [bl, up] <;> omega)) (⟨congrArg iI (by grind), rfl⟩) dX7_within_15
set_option maxHeartbeats 4000000 in
set_option maxRecDepth 100000 in
theorem ct_X7_isPlayer (l : Launch) (L : Lay) (g : St) (p : Int) (hrp : rg p) : Met l yX7_isPlayer (.code yX7_isPlayer cX7_isPlayer 1 (some .boolean) :: wsL_law) { frames := 1, cells := 0, slots := 0, locals := 22 } (va_Pc [.int (iI p)] (HS L g)) (va_Qi (fun (r9 : Int32) (u9 : St) => r9 = iI (if 0 ≤ p ∧ p ≤ 3 then 1 else 0) ∧ u9 = g) (fun u t => HS L u t) (Af L)) 0 0 (Af L) := by
  refine ct_mk (by decide +kernel) (Nat.le_of_ble_eq_true rfl) ?_
  intro pp ee ss mm bel mth cx C hr hlk
  show V pp l ee { frames := 1, cells := 0, slots := 0, locals := 22 } ss mm ([.int (iI p)]).toArray bel mth cx 1 L (HH L g) 0 0 _ 0 [(0, .int (iI p))] []
  unfold rg at hrp
  refine v_iload_n (pc := 0) C 0 rfl rfl dX7_isPlayer_0 ?_
  refine v_iconst (pc := 1) C dX7_isPlayer_1 ?_
  refine v_iconst (pc := 2) C dX7_isPlayer_2 ?_
  refine v_calliS (pc := 3) C cw_RX7_29 (ct_X7_within l L g p 0 3 (by first | assumption | omega | (unfold rg; omega)) (by first | assumption | omega | (unfold rg; omega)) (by first | assumption | omega | (unfold rg; omega))) ⟨Nat.le_of_ble_eq_true rfl, Nat.le_of_ble_eq_true rfl⟩ rfl (Nat.le_of_ble_eq_true rfl) ⟨Nat.le_of_ble_eq_true rfl, Nat.le_of_ble_eq_true rfl⟩ rfl dX7_isPlayer_3 (fun r9 u9 hP_1 => ?_)
  obtain ⟨hP_1, hP_1b⟩ := hP_1
  rw [hP_1, hP_1b]
  clear hP_1 hP_1b r9 u9
  exact v_zret (pc := 6) C hr hlk (by first | assumption | omega | (unfold rg; omega)) (⟨rfl, rfl⟩) dX7_isPlayer_6
set_option maxHeartbeats 4000000 in
set_option maxRecDepth 100000 in
theorem ct_X7_ofPlayer (l : Launch) (L : Lay) (g : St) (p w : Int) (hp : 0 ≤ p ∧ p < 4) (hw : 0 ≤ w ∧ w < 6) : Met l yX7_ofPlayer (.code yX7_ofPlayer cX7_ofPlayer 3 (some .int) :: wsL_law) { frames := 0, cells := 0, slots := 0, locals := 0 } (va_Pc [.ref (adr L 14 0 0), .int (iI p), .int (iI w)] (HS L g)) (va_Qi (fun (r9 : Int32) (u9 : St) => r9 = iI (g 15 0 0 (10 + 6 * p + w)) ∧ u9 = g) (fun u t => HS L u t) (Af L)) 0 0 (Af L) := by
  refine ct_mk (by decide +kernel) (Nat.le_of_ble_eq_true rfl) ?_
  intro pp ee ss mm bel mth cx C hr hlk
  show V pp l ee { frames := 0, cells := 0, slots := 0, locals := 0 } ss mm ([.ref (adr L 14 0 0), .int (iI p), .int (iI w)]).toArray bel mth cx 3 L (HH L g) 0 0 _ 0 [(0, .ref (adr L 14 0 0)), (1, .int (iI p)), (2, .int (iI w))] []
  refine v_aload_n (pc := 0) C 0 rfl rfl dX7_ofPlayer_0 ?_
  refine gt_14_1 (pc := 1) C u_4_4 dX7_ofPlayer_1 ?_
  refine v_bipush (pc := 4) C rfl dX7_ofPlayer_4 ?_
  refine v_bipush (pc := 6) C rfl dX7_ofPlayer_6 ?_
  refine v_iload_n (pc := 8) C 1 rfl rfl dX7_ofPlayer_8 ?_
  refine v_imul (pc := 9) C dX7_ofPlayer_9 ?_
  refine v_iadd (pc := 10) C dX7_ofPlayer_10 ?_
  refine v_iload_n (pc := 11) C 2 rfl rfl dX7_ofPlayer_11 ?_
  refine v_iadd (pc := 12) C dX7_ofPlayer_12 ?_
  refine al_15 (pc := 13) C ⟨by (first | assumption | omega | (simp [bl, up] <;> omega)), by (first | assumption | omega | (simp [bl, up] <;> omega))⟩ dX7_ofPlayer_13 (g 15 0 0 ((10 + (6 * p)) + w)) (rfl) ?_
  exact v_iret (pc := 14) C hr hlk (⟨congrArg iI (by omega), rfl⟩) dX7_ofPlayer_14
set_option maxHeartbeats 4000000 in
set_option maxRecDepth 100000 in
theorem ct_X7_ofEcho (l : Launch) (L : Lay) (g : St) (p w : Int) (hp : 0 ≤ p ∧ p < 24) (hw : 0 ≤ w ∧ w < 5) : Met l yX7_ofEcho (.code yX7_ofEcho cX7_ofEcho 3 (some .int) :: wsL_law) { frames := 0, cells := 0, slots := 0, locals := 0 } (va_Pc [.ref (adr L 14 0 0), .int (iI p), .int (iI w)] (HS L g)) (va_Qi (fun (r9 : Int32) (u9 : St) => r9 = iI (g 15 0 0 (34 + 5 * p + w)) ∧ u9 = g) (fun u t => HS L u t) (Af L)) 0 0 (Af L) := by
  refine ct_mk (by decide +kernel) (Nat.le_of_ble_eq_true rfl) ?_
  intro pp ee ss mm bel mth cx C hr hlk
  show V pp l ee { frames := 0, cells := 0, slots := 0, locals := 0 } ss mm ([.ref (adr L 14 0 0), .int (iI p), .int (iI w)]).toArray bel mth cx 3 L (HH L g) 0 0 _ 0 [(0, .ref (adr L 14 0 0)), (1, .int (iI p)), (2, .int (iI w))] []
  refine v_aload_n (pc := 0) C 0 rfl rfl dX7_ofEcho_0 ?_
  refine gt_14_1 (pc := 1) C u_4_4 dX7_ofEcho_1 ?_
  refine v_bipush (pc := 4) C rfl dX7_ofEcho_4 ?_
  refine v_iconst (pc := 6) C dX7_ofEcho_6 ?_
  refine v_iload_n (pc := 7) C 1 rfl rfl dX7_ofEcho_7 ?_
  refine v_imul (pc := 8) C dX7_ofEcho_8 ?_
  refine v_iadd (pc := 9) C dX7_ofEcho_9 ?_
  refine v_iload_n (pc := 10) C 2 rfl rfl dX7_ofEcho_10 ?_
  refine v_iadd (pc := 11) C dX7_ofEcho_11 ?_
  refine al_15 (pc := 12) C ⟨by (first | assumption | omega | (simp [bl, up] <;> omega)), by (first | assumption | omega | (simp [bl, up] <;> omega))⟩ dX7_ofEcho_12 (g 15 0 0 ((34 + (5 * p)) + w)) (rfl) ?_
  exact v_iret (pc := 13) C hr hlk (⟨congrArg iI (by omega), rfl⟩) dX7_ofEcho_13
set_option maxHeartbeats 4000000 in
set_option maxRecDepth 100000 in
theorem ct_X7_sum (l : Launch) (L : Lay) (g : St) (w : Int) (hw : 0 ≤ w ∧ w < 6) : Met l yX7_sum (.code yX7_sum cX7_sum 4 (some .int) :: wsL_law) { frames := 1, cells := 0, slots := 0, locals := 22 } (va_Pc [.ref (adr L 14 0 0), .int (iI w)] (HS L g)) (va_Qi (fun (r9 : Int32) (u9 : St) => r9 = iI (g 15 0 0 (10 + 6 * 0 + w) + g 15 0 0 (10 + 6 * 1 + w) + g 15 0 0 (10 + 6 * 2 + w) + g 15 0 0 (10 + 6 * 3 + w)) ∧ u9 = g) (fun u t => HS L u t) (Af L)) 0 0 (Af L) := by
  refine ct_mk (by decide +kernel) (Nat.le_of_ble_eq_true rfl) ?_
  intro pp ee ss mm bel mth cx C hr hlk
  show V pp l ee { frames := 1, cells := 0, slots := 0, locals := 22 } ss mm ([.ref (adr L 14 0 0), .int (iI w)]).toArray bel mth cx 4 L (HH L g) 0 0 _ 0 [(0, .ref (adr L 14 0 0)), (1, .int (iI w))] []
  refine v_iconst (pc := 0) C dX7_sum_0 ?_
  refine v_istore_n (pc := 1) C [(2, .int (iI 0)), (0, .ref (adr L 14 0 0)), (1, .int (iI w))] rfl (by decide) rfl dX7_sum_1 ?_
  refine v_iconst (pc := 2) C dX7_sum_2 ?_
  refine v_istore_n (pc := 3) C [(3, .int (iI 0)), (2, .int (iI 0)), (0, .ref (adr L 14 0 0)), (1, .int (iI w))] rfl (by decide) rfl dX7_sum_3 ?_
  refine v_iload_n (pc := 4) C 0 rfl rfl dX7_sum_4 ?_
  refine v_iconst (pc := 5) C dX7_sum_5 ?_
  refine v_icmp_ge (pc := 6) C 24 ⟨by (first | assumption | omega | (simp [bl, up] <;> omega)), by (first | assumption | omega | (simp [bl, up] <;> omega))⟩ ⟨by (first | assumption | omega | (simp [bl, up] <;> omega)), by (first | assumption | omega | (simp [bl, up] <;> omega))⟩ (by decide) dX7_sum_6 (fun h6 => ?_) (fun h6 => ?_)
  · skip
    exfalso; omega
  · skip
    refine v_iload_n (pc := 9) C 1 rfl rfl dX7_sum_9 ?_
    refine v_aload_n (pc := 10) C 2 rfl rfl dX7_sum_10 ?_
    refine v_iload_n (pc := 11) C 0 rfl rfl dX7_sum_11 ?_
    refine v_iload_n (pc := 12) C 3 rfl rfl dX7_sum_12 ?_
    refine v_calliV (pc := 13) C cw_RX7_33 rcv_14 (ct_X7_ofPlayer l L g 0 w (by first | assumption | omega | (simp [bl, up] <;> omega)) (by first | assumption | omega | (simp [bl, up] <;> omega))) ⟨Nat.le_of_ble_eq_true rfl, Nat.le_of_ble_eq_true rfl⟩ rfl (Nat.le_of_ble_eq_true rfl) ⟨Nat.le_of_ble_eq_true rfl, Nat.le_of_ble_eq_true rfl⟩ rfl dX7_sum_13 (fun r9 u9 hP_1 => ?_)
    obtain ⟨hP_1, hP_1b⟩ := hP_1
    rw [hP_1, hP_1b]
    clear hP_1 hP_1b r9 u9
    refine v_iadd (pc := 16) C dX7_sum_16 ?_
    refine v_istore_n (pc := 17) C [(2, .int (iI (0 + (g 15 0 0 (10 + 6 * 0 + w))))), (3, .int (iI 0)), (0, .ref (adr L 14 0 0)), (1, .int (iI w))] rfl (by decide) rfl dX7_sum_17 ?_
    refine v_iinc (pc := 18) C 1 [(3, .int (iI 1)), (2, .int (iI (0 + (g 15 0 0 (10 + 6 * 0 + w))))), (0, .ref (adr L 14 0 0)), (1, .int (iI w))] rfl (by decide) rfl dX7_sum_18 ?_
    refine v_goto (pc := 21) C 4 (by decide) dX7_sum_21 ?_
    refine v_iload_n (pc := 4) C 0 rfl rfl dX7_sum_4 ?_
    refine v_iconst (pc := 5) C dX7_sum_5 ?_
    refine v_icmp_ge (pc := 6) C 24 ⟨by (first | assumption | omega | (simp [bl, up] <;> omega)), by (first | assumption | omega | (simp [bl, up] <;> omega))⟩ ⟨by (first | assumption | omega | (simp [bl, up] <;> omega)), by (first | assumption | omega | (simp [bl, up] <;> omega))⟩ (by decide) dX7_sum_6 (fun h6 => ?_) (fun h6 => ?_)
    · skip
      exfalso; omega
    · skip
      refine v_iload_n (pc := 9) C 1 rfl rfl dX7_sum_9 ?_
      refine v_aload_n (pc := 10) C 2 rfl rfl dX7_sum_10 ?_
      refine v_iload_n (pc := 11) C 0 rfl rfl dX7_sum_11 ?_
      refine v_iload_n (pc := 12) C 3 rfl rfl dX7_sum_12 ?_
      refine v_calliV (pc := 13) C cw_RX7_33 rcv_14 (ct_X7_ofPlayer l L g 1 w (by first | assumption | omega | (simp [bl, up] <;> omega)) (by first | assumption | omega | (simp [bl, up] <;> omega))) ⟨Nat.le_of_ble_eq_true rfl, Nat.le_of_ble_eq_true rfl⟩ rfl (Nat.le_of_ble_eq_true rfl) ⟨Nat.le_of_ble_eq_true rfl, Nat.le_of_ble_eq_true rfl⟩ rfl dX7_sum_13 (fun r9 u9 hP_2 => ?_)
      obtain ⟨hP_2, hP_2b⟩ := hP_2
      rw [hP_2, hP_2b]
      clear hP_2 hP_2b r9 u9
      refine v_iadd (pc := 16) C dX7_sum_16 ?_
      refine v_istore_n (pc := 17) C [(2, .int (iI ((0 + (g 15 0 0 (10 + 6 * 0 + w))) + (g 15 0 0 (10 + 6 * 1 + w))))), (3, .int (iI 1)), (0, .ref (adr L 14 0 0)), (1, .int (iI w))] rfl (by decide) rfl dX7_sum_17 ?_
      refine v_iinc (pc := 18) C 1 [(3, .int (iI 2)), (2, .int (iI ((0 + (g 15 0 0 (10 + 6 * 0 + w))) + (g 15 0 0 (10 + 6 * 1 + w))))), (0, .ref (adr L 14 0 0)), (1, .int (iI w))] rfl (by decide) rfl dX7_sum_18 ?_
      refine v_goto (pc := 21) C 4 (by decide) dX7_sum_21 ?_
      refine v_iload_n (pc := 4) C 0 rfl rfl dX7_sum_4 ?_
      refine v_iconst (pc := 5) C dX7_sum_5 ?_
      refine v_icmp_ge (pc := 6) C 24 ⟨by (first | assumption | omega | (simp [bl, up] <;> omega)), by (first | assumption | omega | (simp [bl, up] <;> omega))⟩ ⟨by (first | assumption | omega | (simp [bl, up] <;> omega)), by (first | assumption | omega | (simp [bl, up] <;> omega))⟩ (by decide) dX7_sum_6 (fun h6 => ?_) (fun h6 => ?_)
      · skip
        exfalso; omega
      · skip
        refine v_iload_n (pc := 9) C 1 rfl rfl dX7_sum_9 ?_
        refine v_aload_n (pc := 10) C 2 rfl rfl dX7_sum_10 ?_
        refine v_iload_n (pc := 11) C 0 rfl rfl dX7_sum_11 ?_
        refine v_iload_n (pc := 12) C 3 rfl rfl dX7_sum_12 ?_
        refine v_calliV (pc := 13) C cw_RX7_33 rcv_14 (ct_X7_ofPlayer l L g 2 w (by first | assumption | omega | (simp [bl, up] <;> omega)) (by first | assumption | omega | (simp [bl, up] <;> omega))) ⟨Nat.le_of_ble_eq_true rfl, Nat.le_of_ble_eq_true rfl⟩ rfl (Nat.le_of_ble_eq_true rfl) ⟨Nat.le_of_ble_eq_true rfl, Nat.le_of_ble_eq_true rfl⟩ rfl dX7_sum_13 (fun r9 u9 hP_3 => ?_)
        obtain ⟨hP_3, hP_3b⟩ := hP_3
        rw [hP_3, hP_3b]
        clear hP_3 hP_3b r9 u9
        refine v_iadd (pc := 16) C dX7_sum_16 ?_
        refine v_istore_n (pc := 17) C [(2, .int (iI (((0 + (g 15 0 0 (10 + 6 * 0 + w))) + (g 15 0 0 (10 + 6 * 1 + w))) + (g 15 0 0 (10 + 6 * 2 + w))))), (3, .int (iI 2)), (0, .ref (adr L 14 0 0)), (1, .int (iI w))] rfl (by decide) rfl dX7_sum_17 ?_
        refine v_iinc (pc := 18) C 1 [(3, .int (iI 3)), (2, .int (iI (((0 + (g 15 0 0 (10 + 6 * 0 + w))) + (g 15 0 0 (10 + 6 * 1 + w))) + (g 15 0 0 (10 + 6 * 2 + w))))), (0, .ref (adr L 14 0 0)), (1, .int (iI w))] rfl (by decide) rfl dX7_sum_18 ?_
        refine v_goto (pc := 21) C 4 (by decide) dX7_sum_21 ?_
        refine v_iload_n (pc := 4) C 0 rfl rfl dX7_sum_4 ?_
        refine v_iconst (pc := 5) C dX7_sum_5 ?_
        refine v_icmp_ge (pc := 6) C 24 ⟨by (first | assumption | omega | (simp [bl, up] <;> omega)), by (first | assumption | omega | (simp [bl, up] <;> omega))⟩ ⟨by (first | assumption | omega | (simp [bl, up] <;> omega)), by (first | assumption | omega | (simp [bl, up] <;> omega))⟩ (by decide) dX7_sum_6 (fun h6 => ?_) (fun h6 => ?_)
        · skip
          exfalso; omega
        · skip
          refine v_iload_n (pc := 9) C 1 rfl rfl dX7_sum_9 ?_
          refine v_aload_n (pc := 10) C 2 rfl rfl dX7_sum_10 ?_
          refine v_iload_n (pc := 11) C 0 rfl rfl dX7_sum_11 ?_
          refine v_iload_n (pc := 12) C 3 rfl rfl dX7_sum_12 ?_
          refine v_calliV (pc := 13) C cw_RX7_33 rcv_14 (ct_X7_ofPlayer l L g 3 w (by first | assumption | omega | (simp [bl, up] <;> omega)) (by first | assumption | omega | (simp [bl, up] <;> omega))) ⟨Nat.le_of_ble_eq_true rfl, Nat.le_of_ble_eq_true rfl⟩ rfl (Nat.le_of_ble_eq_true rfl) ⟨Nat.le_of_ble_eq_true rfl, Nat.le_of_ble_eq_true rfl⟩ rfl dX7_sum_13 (fun r9 u9 hP_4 => ?_)
          obtain ⟨hP_4, hP_4b⟩ := hP_4
          rw [hP_4, hP_4b]
          clear hP_4 hP_4b r9 u9
          refine v_iadd (pc := 16) C dX7_sum_16 ?_
          refine v_istore_n (pc := 17) C [(2, .int (iI ((((0 + (g 15 0 0 (10 + 6 * 0 + w))) + (g 15 0 0 (10 + 6 * 1 + w))) + (g 15 0 0 (10 + 6 * 2 + w))) + (g 15 0 0 (10 + 6 * 3 + w))))), (3, .int (iI 3)), (0, .ref (adr L 14 0 0)), (1, .int (iI w))] rfl (by decide) rfl dX7_sum_17 ?_
          refine v_iinc (pc := 18) C 1 [(3, .int (iI 4)), (2, .int (iI ((((0 + (g 15 0 0 (10 + 6 * 0 + w))) + (g 15 0 0 (10 + 6 * 1 + w))) + (g 15 0 0 (10 + 6 * 2 + w))) + (g 15 0 0 (10 + 6 * 3 + w))))), (0, .ref (adr L 14 0 0)), (1, .int (iI w))] rfl (by decide) rfl dX7_sum_18 ?_
          refine v_goto (pc := 21) C 4 (by decide) dX7_sum_21 ?_
          refine v_iload_n (pc := 4) C 0 rfl rfl dX7_sum_4 ?_
          refine v_iconst (pc := 5) C dX7_sum_5 ?_
          refine v_icmp_ge (pc := 6) C 24 ⟨by (first | assumption | omega | (simp [bl, up] <;> omega)), by (first | assumption | omega | (simp [bl, up] <;> omega))⟩ ⟨by (first | assumption | omega | (simp [bl, up] <;> omega)), by (first | assumption | omega | (simp [bl, up] <;> omega))⟩ (by decide) dX7_sum_6 (fun h6 => ?_) (fun h6 => ?_)
          · skip
            refine v_iload_n (pc := 24) C 1 rfl rfl dX7_sum_24 ?_
            exact v_iret (pc := 25) C hr hlk (⟨congrArg iI (by omega), rfl⟩) dX7_sum_25
          · skip
            exfalso; omega
set_option maxHeartbeats 4000000 in
set_option maxRecDepth 100000 in
theorem ct_X7_save (l : Launch) (L : Lay) (g : St) (h3 : 0 ≤ g 14 0 0 3 ∧ g 14 0 0 3 ≤ 6) : Met l yX7_save (.code yX7_save cX7_save 2 none :: wsL_law) { frames := 0, cells := 0, slots := 0, locals := 0 } (va_Pc [.ref (adr L 14 0 0)] (HS L g)) (va_Qv (fun (u9 : St) => u9 = (svM g)) (fun u t => HS L u t) (Af L)) 0 0 (Af L) := by
  refine ct_mk (by decide +kernel) (Nat.le_of_ble_eq_true rfl) ?_
  intro pp ee ss mm bel mth cx C hr hlk
  show V pp l ee { frames := 0, cells := 0, slots := 0, locals := 0 } ss mm ([.ref (adr L 14 0 0)]).toArray bel mth cx 2 L (HH L g) 0 0 _ 0 [(0, .ref (adr L 14 0 0))] []
  have h3a := svA_3 h3
  refine v_aload_n (pc := 0) C 0 rfl rfl dX7_save_0 ?_
  refine gt_14_3 (pc := 1) C u_9_1 dX7_save_1 (g 14 0 0 3) (rfl) ?_
  refine v_bipush (pc := 4) C rfl dX7_save_4 ?_
  refine v_icmp_ne (pc := 6) C 50 ⟨by (first | assumption | omega | (simp [bl, up] <;> omega)), by (first | assumption | omega | (simp [bl, up] <;> omega))⟩ ⟨by (first | assumption | omega | (simp [bl, up] <;> omega)), by (first | assumption | omega | (simp [bl, up] <;> omega))⟩ (by decide) dX7_save_6 (fun h6 => ?_) (fun h6 => ?_)
  · skip
    refine v_st (g2 := svA g) C (by unfold svA; first | rw [if_pos (by omega)] | rw [if_neg (by omega)]) ?_
    refine v_iconst (pc := 50) C dX7_save_50 ?_
    refine v_istore_n (pc := 51) C [(1, .int (iI 0)), (0, .ref (adr L 14 0 0))] rfl (by decide) rfl dX7_save_51 ?_
    have lb52 : ∀ (n9 : Nat) (i : Int), (0 ≤ i ∧ i ≤ 154) → (154 - i).toNat < n9 → V pp l ee { frames := 0, cells := 0, slots := 0, locals := 0 } ss mm ([.ref (adr L 14 0 0)]).toArray bel mth cx 2 L (HH L (cpM (svA g) (svA g 14 0 0 3) i)) 0 0 (MQ bel (va_Qv (fun (u9 : St) => u9 = (svM g)) (fun u t => HS L u t) (Af L)) ([.ref (adr L 14 0 0)]).toArray ss 0 0 (Af L)) 52 [(0, .ref (adr L 14 0 0)), (1, .int (iI i))] [] := by
      intro n9
      induction n9 with
      | zero => intro i hi hm9; exact absurd hm9 (Nat.not_lt_zero _)
      | succ n9 ih9 =>
        intro i hi hm9
        have ih52 := ih9
        refine v_iload_n (pc := 52) C 1 rfl rfl dX7_save_52 ?_
        refine v_sipush (pc := 53) C rfl dX7_save_53 ?_
        refine v_icmp_ge (pc := 56) C 86 ⟨by (first | assumption | omega | (simp [bl, up] <;> omega)), by (first | assumption | omega | (simp [bl, up] <;> omega))⟩ ⟨by (first | assumption | omega | (simp [bl, up] <;> omega)), by (first | assumption | omega | (simp [bl, up] <;> omega))⟩ (by decide) dX7_save_56 (fun h56 => ?_) (fun h56 => ?_)
        · skip
          refine v_st (g2 := cpM (svA g) (svA g 14 0 0 3) 154) C (by rw [show i = 154 by omega]) ?_
          refine v_aload_n (pc := 86) C 0 rfl rfl dX7_save_86 ?_
          refine v_dup (pc := 87) C rfl dX7_save_87 ?_
          refine gt_14_3 (pc := 88) C u_9_1 dX7_save_88 (svA g 14 0 0 3) (by simp [cpM]) ?_
          refine v_iconst (pc := 91) C dX7_save_91 ?_
          refine v_iadd (pc := 92) C dX7_save_92 ?_
          refine pt_14_3 (pc := 93) C u_9_1 dX7_save_93 ?_
          exact v_vret (pc := 96) C hr hlk (by rfl) dX7_save_96
        · skip
          refine v_aload_n (pc := 59) C 0 rfl rfl dX7_save_59 ?_
          refine gt_14_2 (pc := 60) C u_4_5 dX7_save_60 ?_
          refine v_aload_n (pc := 63) C 0 rfl rfl dX7_save_63 ?_
          refine gt_14_3 (pc := 64) C u_9_1 dX7_save_64 (svA g 14 0 0 3) (by simp [cpM]) ?_
          refine v_sipush (pc := 67) C rfl dX7_save_67 ?_
          refine v_imul (pc := 70) C dX7_save_70 ?_
          refine v_iload_n (pc := 71) C 1 rfl rfl dX7_save_71 ?_
          refine v_iadd (pc := 72) C dX7_save_72 ?_
          refine v_aload_n (pc := 73) C 0 rfl rfl dX7_save_73 ?_
          refine gt_14_1 (pc := 74) C u_4_4 dX7_save_74 ?_
          refine v_iload_n (pc := 77) C 1 rfl rfl dX7_save_77 ?_
          refine al_15 (pc := 78) C ⟨by (first | assumption | omega | (simp [bl, up] <;> omega)), by (first | assumption | omega | (simp [bl, up] <;> omega))⟩ dX7_save_78 (svA g 15 0 0 i) (by simp [cpM]) ?_
          refine as_16 (pc := 79) C ⟨by (first | assumption | omega | (simp [bl, up] <;> omega)), by (first | assumption | omega | (simp [bl, up] <;> omega))⟩ dX7_save_79 ?_
          refine v_iinc (pc := 80) C 1 [(1, .int (iI (i + 1))), (0, .ref (adr L 14 0 0))] rfl (by decide) rfl dX7_save_80 ?_
          refine v_goto (pc := 83) C 52 (by decide) dX7_save_83 ?_
          refine v_lsub [1, 0] rfl ?_
          refine v_st (g2 := cpM (svA g) (svA g 14 0 0 3) (i + 1)) C (by exact cpM_s _ _ i hi.1) ?_
          exact ih52 (i + 1) (by omega) (by omega)
    refine v_lsub [1, 0] rfl ?_
    refine v_st (g2 := cpM (svA g) (svA g 14 0 0 3) 0) C (by exact (cpM_0 _ _).symm) ?_
    exact lb52 _ 0 (by omega) (Nat.lt_succ_self _)
  · skip
    refine v_iconst (pc := 9) C dX7_save_9 ?_
    refine v_istore_n (pc := 10) C [(1, .int (iI 0)), (0, .ref (adr L 14 0 0))] rfl (by decide) rfl dX7_save_10 ?_
    have lb11 : ∀ (n9 : Nat) (i : Int), (0 ≤ i ∧ i ≤ 770) → (770 - i).toNat < n9 → V pp l ee { frames := 0, cells := 0, slots := 0, locals := 0 } ss mm ([.ref (adr L 14 0 0)]).toArray bel mth cx 2 L (HH L (shM g i)) 0 0 (MQ bel (va_Qv (fun (u9 : St) => u9 = (svM g)) (fun u t => HS L u t) (Af L)) ([.ref (adr L 14 0 0)]).toArray ss 0 0 (Af L)) 11 [(0, .ref (adr L 14 0 0)), (1, .int (iI i))] [] := by
      intro n9
      induction n9 with
      | zero => intro i hi hm9; exact absurd hm9 (Nat.not_lt_zero _)
      | succ n9 ih9 =>
        intro i hi hm9
        have ih11 := ih9
        refine v_iload_n (pc := 11) C 1 rfl rfl dX7_save_11 ?_
        refine v_sipush (pc := 12) C rfl dX7_save_12 ?_
        refine v_icmp_ge (pc := 15) C 40 ⟨by (first | assumption | omega | (simp [bl, up] <;> omega)), by (first | assumption | omega | (simp [bl, up] <;> omega))⟩ ⟨by (first | assumption | omega | (simp [bl, up] <;> omega)), by (first | assumption | omega | (simp [bl, up] <;> omega))⟩ (by decide) dX7_save_15 (fun h15 => ?_) (fun h15 => ?_)
        · skip
          refine v_st (g2 := shM g 770) C (by rw [show i = 770 by omega]) ?_
          refine v_aload_n (pc := 40) C 0 rfl rfl dX7_save_40 ?_
          refine v_dup (pc := 41) C rfl dX7_save_41 ?_
          refine gt_14_3 (pc := 42) C u_9_1 dX7_save_42 (g 14 0 0 3) (by simp [shM]) ?_
          refine v_iconst (pc := 45) C dX7_save_45 ?_
          refine v_isub (pc := 46) C dX7_save_46 ?_
          refine pt_14_3 (pc := 47) C u_9_1 dX7_save_47 ?_
          refine v_st (g2 := svA g) C (by unfold svA; first | rw [if_pos (by omega)] | rw [if_neg (by omega)]) ?_
          refine v_iconst (pc := 50) C dX7_save_50 ?_
          refine v_istore_n (pc := 51) C [(1, .int (iI 0)), (0, .ref (adr L 14 0 0))] rfl (by decide) rfl dX7_save_51 ?_
          have lb52 : ∀ (n9 : Nat) (i : Int), (0 ≤ i ∧ i ≤ 154) → (154 - i).toNat < n9 → V pp l ee { frames := 0, cells := 0, slots := 0, locals := 0 } ss mm ([.ref (adr L 14 0 0)]).toArray bel mth cx 2 L (HH L (cpM (svA g) (svA g 14 0 0 3) i)) 0 0 (MQ bel (va_Qv (fun (u9 : St) => u9 = (svM g)) (fun u t => HS L u t) (Af L)) ([.ref (adr L 14 0 0)]).toArray ss 0 0 (Af L)) 52 [(0, .ref (adr L 14 0 0)), (1, .int (iI i))] [] := by
            intro n9
            induction n9 with
            | zero => intro i hi hm9; exact absurd hm9 (Nat.not_lt_zero _)
            | succ n9 ih9 =>
              intro i hi hm9
              have ih52 := ih9
              refine v_iload_n (pc := 52) C 1 rfl rfl dX7_save_52 ?_
              refine v_sipush (pc := 53) C rfl dX7_save_53 ?_
              refine v_icmp_ge (pc := 56) C 86 ⟨by (first | assumption | omega | (simp [bl, up] <;> omega)), by (first | assumption | omega | (simp [bl, up] <;> omega))⟩ ⟨by (first | assumption | omega | (simp [bl, up] <;> omega)), by (first | assumption | omega | (simp [bl, up] <;> omega))⟩ (by decide) dX7_save_56 (fun h56 => ?_) (fun h56 => ?_)
              · skip
                refine v_st (g2 := cpM (svA g) (svA g 14 0 0 3) 154) C (by rw [show i = 154 by omega]) ?_
                refine v_aload_n (pc := 86) C 0 rfl rfl dX7_save_86 ?_
                refine v_dup (pc := 87) C rfl dX7_save_87 ?_
                refine gt_14_3 (pc := 88) C u_9_1 dX7_save_88 (svA g 14 0 0 3) (by simp [cpM]) ?_
                refine v_iconst (pc := 91) C dX7_save_91 ?_
                refine v_iadd (pc := 92) C dX7_save_92 ?_
                refine pt_14_3 (pc := 93) C u_9_1 dX7_save_93 ?_
                exact v_vret (pc := 96) C hr hlk (by rfl) dX7_save_96
              · skip
                refine v_aload_n (pc := 59) C 0 rfl rfl dX7_save_59 ?_
                refine gt_14_2 (pc := 60) C u_4_5 dX7_save_60 ?_
                refine v_aload_n (pc := 63) C 0 rfl rfl dX7_save_63 ?_
                refine gt_14_3 (pc := 64) C u_9_1 dX7_save_64 (svA g 14 0 0 3) (by simp [cpM]) ?_
                refine v_sipush (pc := 67) C rfl dX7_save_67 ?_
                refine v_imul (pc := 70) C dX7_save_70 ?_
                refine v_iload_n (pc := 71) C 1 rfl rfl dX7_save_71 ?_
                refine v_iadd (pc := 72) C dX7_save_72 ?_
                refine v_aload_n (pc := 73) C 0 rfl rfl dX7_save_73 ?_
                refine gt_14_1 (pc := 74) C u_4_4 dX7_save_74 ?_
                refine v_iload_n (pc := 77) C 1 rfl rfl dX7_save_77 ?_
                refine al_15 (pc := 78) C ⟨by (first | assumption | omega | (simp [bl, up] <;> omega)), by (first | assumption | omega | (simp [bl, up] <;> omega))⟩ dX7_save_78 (svA g 15 0 0 i) (by simp [cpM]) ?_
                refine as_16 (pc := 79) C ⟨by (first | assumption | omega | (simp [bl, up] <;> omega)), by (first | assumption | omega | (simp [bl, up] <;> omega))⟩ dX7_save_79 ?_
                refine v_iinc (pc := 80) C 1 [(1, .int (iI (i + 1))), (0, .ref (adr L 14 0 0))] rfl (by decide) rfl dX7_save_80 ?_
                refine v_goto (pc := 83) C 52 (by decide) dX7_save_83 ?_
                refine v_lsub [1, 0] rfl ?_
                refine v_st (g2 := cpM (svA g) (svA g 14 0 0 3) (i + 1)) C (by exact cpM_s _ _ i hi.1) ?_
                exact ih52 (i + 1) (by omega) (by omega)
          refine v_lsub [1, 0] rfl ?_
          refine v_st (g2 := cpM (svA g) (svA g 14 0 0 3) 0) C (by exact (cpM_0 _ _).symm) ?_
          exact lb52 _ 0 (by omega) (Nat.lt_succ_self _)
        · skip
          refine v_aload_n (pc := 18) C 0 rfl rfl dX7_save_18 ?_
          refine gt_14_2 (pc := 19) C u_4_5 dX7_save_19 ?_
          refine v_iload_n (pc := 22) C 1 rfl rfl dX7_save_22 ?_
          refine v_aload_n (pc := 23) C 0 rfl rfl dX7_save_23 ?_
          refine gt_14_2 (pc := 24) C u_4_5 dX7_save_24 ?_
          refine v_iload_n (pc := 27) C 1 rfl rfl dX7_save_27 ?_
          refine v_sipush (pc := 28) C rfl dX7_save_28 ?_
          refine v_iadd (pc := 31) C dX7_save_31 ?_
          refine al_16 (pc := 32) C ⟨by (first | assumption | omega | (simp [bl, up] <;> omega)), by (first | assumption | omega | (simp [bl, up] <;> omega))⟩ dX7_save_32 (g 16 0 0 (i + 154)) (by simp only [shM]; rw [if_neg (by omega)]) ?_
          refine as_16 (pc := 33) C ⟨by (first | assumption | omega | (simp [bl, up] <;> omega)), by (first | assumption | omega | (simp [bl, up] <;> omega))⟩ dX7_save_33 ?_
          refine v_iinc (pc := 34) C 1 [(1, .int (iI (i + 1))), (0, .ref (adr L 14 0 0))] rfl (by decide) rfl dX7_save_34 ?_
          refine v_goto (pc := 37) C 11 (by decide) dX7_save_37 ?_
          refine v_lsub [1, 0] rfl ?_
          refine v_st (g2 := shM g (i + 1)) C (by exact shM_s g i hi.1) ?_
          exact ih11 (i + 1) (by omega) (by omega)
    refine v_lsub [1, 0] rfl ?_
    refine v_st (g2 := shM g 0) C (by exact (shM_0 g).symm) ?_
    exact lb11 _ 0 (by omega) (Nat.lt_succ_self _)
set_option maxHeartbeats 4000000 in
set_option maxRecDepth 100000 in
theorem ct_X7_takeBall (l : Launch) (L : Lay) (g : St) (h6 : g 15 0 0 6 = 0 ∨ g 15 0 0 6 = 1) : Met l yX7_takeBall (.code yX7_takeBall cX7_takeBall 1 none :: wsL_law) { frames := 0, cells := 0, slots := 0, locals := 0 } (va_Pc [.ref (adr L 14 0 0)] (HS L g)) (va_Qv (fun (u9 : St) => u9 = (up (up g 14 0 0 12 (g 15 0 0 4)) 14 0 0 13 (g 15 0 0 6))) (fun u t => HS L u t) (Af L)) 0 0 (Af L) := by
  refine ct_mk (by decide +kernel) (Nat.le_of_ble_eq_true rfl) ?_
  intro pp ee ss mm bel mth cx C hr hlk
  show V pp l ee { frames := 0, cells := 0, slots := 0, locals := 0 } ss mm ([.ref (adr L 14 0 0)]).toArray bel mth cx 1 L (HH L g) 0 0 _ 0 [(0, .ref (adr L 14 0 0))] []
  refine v_aload_n (pc := 0) C 0 rfl rfl dX7_takeBall_0 ?_
  refine v_aload_n (pc := 1) C 0 rfl rfl dX7_takeBall_1 ?_
  refine gt_14_1 (pc := 2) C u_4_4 dX7_takeBall_2 ?_
  refine v_iconst (pc := 5) C dX7_takeBall_5 ?_
  refine al_15 (pc := 6) C ⟨by (first | assumption | omega | (simp [bl, up] <;> omega)), by (first | assumption | omega | (simp [bl, up] <;> omega))⟩ dX7_takeBall_6 (g 15 0 0 4) (rfl) ?_
  refine pt_14_12 (pc := 7) C u_15_17 dX7_takeBall_7 ?_
  refine v_aload_n (pc := 10) C 0 rfl rfl dX7_takeBall_10 ?_
  refine v_aload_n (pc := 11) C 0 rfl rfl dX7_takeBall_11 ?_
  refine gt_14_1 (pc := 12) C u_4_4 dX7_takeBall_12 ?_
  refine v_bipush (pc := 15) C rfl dX7_takeBall_15 ?_
  refine al_15 (pc := 17) C ⟨by (first | assumption | omega | (simp [bl, up] <;> omega)), by (first | assumption | omega | (simp [bl, up] <;> omega))⟩ dX7_takeBall_17 (g 15 0 0 6) (by simp [up]) ?_
  refine v_iconst (pc := 18) C dX7_takeBall_18 ?_
  refine v_icmp_ne (pc := 19) C 26 ⟨by (first | assumption | omega | (simp [bl, up] <;> omega)), by (first | assumption | omega | (simp [bl, up] <;> omega))⟩ ⟨by (first | assumption | omega | (simp [bl, up] <;> omega)), by (first | assumption | omega | (simp [bl, up] <;> omega))⟩ (by decide) dX7_takeBall_19 (fun h19 => ?_) (fun h19 => ?_)
  · skip
    refine v_iconst (pc := 26) C dX7_takeBall_26 ?_
    refine pt_14_13 (pc := 27) C u_15_18 (by (first | assumption | omega | (simp [bl, up] <;> omega))) dX7_takeBall_27 ?_
    exact v_vret (pc := 30) C hr hlk (by first | (rw [show g 15 0 0 6 = 1 by omega]) | (rw [show g 15 0 0 6 = 0 by omega])) dX7_takeBall_30
  · skip
    refine v_iconst (pc := 22) C dX7_takeBall_22 ?_
    refine v_goto (pc := 23) C 27 (by decide) dX7_takeBall_23 ?_
    refine pt_14_13 (pc := 27) C u_15_18 (by (first | assumption | omega | (simp [bl, up] <;> omega))) dX7_takeBall_27 ?_
    exact v_vret (pc := 30) C hr hlk (by first | (rw [show g 15 0 0 6 = 1 by omega]) | (rw [show g 15 0 0 6 = 0 by omega])) dX7_takeBall_30
set_option maxHeartbeats 4000000 in
set_option maxRecDepth 100000 in
theorem ct_X7_moveBall (l : Launch) (L : Lay) (g : St) (n : Int) (hn : 0 ≤ n ∧ n ≤ 100000) (hs : 8 ≤ g 15 0 0 0 ∧ g 15 0 0 0 ≤ 40) (hb : 0 ≤ g 14 0 0 12 ∧ g 14 0 0 12 ≤ g 15 0 0 0) (hr0 : g 14 0 0 13 = 0 ∨ g 14 0 0 13 = 1) : Met l yX7_moveBall (.code yX7_moveBall cX7_moveBall 3 none :: wsL_law) { frames := 0, cells := 0, slots := 0, locals := 0 } (va_Pc [.ref (adr L 14 0 0), .int (iI n)] (HS L g)) (va_Qv (fun (u9 : St) => u9 = (mbG g n.toNat)) (fun u t => HS L u t) (Af L)) 0 0 (Af L) := by
  refine ct_mk (by decide +kernel) (Nat.le_of_ble_eq_true rfl) ?_
  intro pp ee ss mm bel mth cx C hr hlk
  show V pp l ee { frames := 0, cells := 0, slots := 0, locals := 0 } ss mm ([.ref (adr L 14 0 0), .int (iI n)]).toArray bel mth cx 3 L (HH L g) 0 0 _ 0 [(0, .ref (adr L 14 0 0)), (1, .int (iI n))] []
  refine v_iconst (pc := 0) C dX7_moveBall_0 ?_
  refine v_istore_n (pc := 1) C [(2, .int (iI 0)), (0, .ref (adr L 14 0 0)), (1, .int (iI n))] rfl (by decide) rfl dX7_moveBall_1 ?_
  have lb2 : ∀ (n9 : Nat) (i : Int), (0 ≤ i ∧ i ≤ n) → (n - i).toNat < n9 → V pp l ee { frames := 0, cells := 0, slots := 0, locals := 0 } ss mm ([.ref (adr L 14 0 0), .int (iI n)]).toArray bel mth cx 3 L (HH L (mbG g i.toNat)) 0 0 (MQ bel (va_Qv (fun (u9 : St) => u9 = (mbG g n.toNat)) (fun u t => HS L u t) (Af L)) ([.ref (adr L 14 0 0), .int (iI n)]).toArray ss 0 0 (Af L)) 2 [(0, .ref (adr L 14 0 0)), (1, .int (iI n)), (2, .int (iI i))] [] := by
    intro n9
    induction n9 with
    | zero => intro i hi hm9; exact absurd hm9 (Nat.not_lt_zero _)
    | succ n9 ih9 =>
      intro i hi hm9
      obtain ⟨hq1, hq2⟩ := bwalk_in (last := g 15 0 0 0) (by omega) (q := (g 14 0 0 12, g 14 0 0 13)) hb hr0 i.toNat
      have ih2 := ih9
      refine v_iload_n (pc := 2) C 2 rfl rfl dX7_moveBall_2 ?_
      refine v_iload_n (pc := 3) C 1 rfl rfl dX7_moveBall_3 ?_
      refine v_icmp_ge (pc := 4) C 78 ⟨by (first | assumption | omega | (simp [bl, up] <;> omega)), by (first | assumption | omega | (simp [bl, up] <;> omega))⟩ ⟨by (first | assumption | omega | (simp [bl, up] <;> omega)), by (first | assumption | omega | (simp [bl, up] <;> omega))⟩ (by decide) dX7_moveBall_4 (fun h4 => ?_) (fun h4 => ?_)
      · skip
        exact v_vret (pc := 78) C hr hlk (by rw [show i = n by omega]) dX7_moveBall_78
      · skip
        refine v_aload_n (pc := 7) C 0 rfl rfl dX7_moveBall_7 ?_
        refine v_aload_n (pc := 8) C 0 rfl rfl dX7_moveBall_8 ?_
        refine gt_14_13 (pc := 9) C u_15_18 dX7_moveBall_9 ((bwalk (g 15 0 0 0) i.toNat (g 14 0 0 12, g 14 0 0 13)).2) (by simp [mbG, up]) ?_
        refine v_if_eq (pc := 12) C 36 ⟨by (first | assumption | omega | (simp [bl, up] <;> omega)), by (first | assumption | omega | (simp [bl, up] <;> omega))⟩ (by decide) dX7_moveBall_12 (fun h12 => ?_) (fun h12 => ?_)
        · skip
          refine v_aload_n (pc := 36) C 0 rfl rfl dX7_moveBall_36 ?_
          refine gt_14_12 (pc := 37) C u_15_17 dX7_moveBall_37 ((bwalk (g 15 0 0 0) i.toNat (g 14 0 0 12, g 14 0 0 13)).1) (by simp [mbG, up]) ?_
          refine v_if_ne (pc := 40) C 47 ⟨by (first | assumption | omega | (simp [bl, up] <;> omega)), by (first | assumption | omega | (simp [bl, up] <;> omega))⟩ (by decide) dX7_moveBall_40 (fun h40 => ?_) (fun h40 => ?_)
          · skip
            refine v_iconst (pc := 47) C dX7_moveBall_47 ?_
            refine pt_14_13 (pc := 48) C u_15_18 (by (first | assumption | omega | (simp [bl, up] <;> omega))) dX7_moveBall_48 ?_
            refine v_aload_n (pc := 51) C 0 rfl rfl dX7_moveBall_51 ?_
            refine v_dup (pc := 52) C rfl dX7_moveBall_52 ?_
            refine gt_14_12 (pc := 53) C u_15_17 dX7_moveBall_53 ((bwalk (g 15 0 0 0) i.toNat (g 14 0 0 12, g 14 0 0 13)).1) (by simp [mbG, up]) ?_
            refine v_aload_n (pc := 56) C 0 rfl rfl dX7_moveBall_56 ?_
            refine gt_14_13 (pc := 57) C u_15_18 dX7_moveBall_57 0 (by simp [up]) ?_
            refine v_if_eq (pc := 60) C 67 ⟨by (first | assumption | omega | (simp [bl, up] <;> omega)), by (first | assumption | omega | (simp [bl, up] <;> omega))⟩ (by decide) dX7_moveBall_60 (fun h60 => ?_) (fun h60 => ?_)
            · skip
              refine v_iconst (pc := 67) C dX7_moveBall_67 ?_
              refine v_iadd (pc := 68) C dX7_moveBall_68 ?_
              refine pt_14_12 (pc := 69) C u_15_17 dX7_moveBall_69 ?_
              refine v_iinc (pc := 72) C 2 [(2, .int (iI (i + 1))), (0, .ref (adr L 14 0 0)), (1, .int (iI n))] rfl (by decide) rfl dX7_moveBall_72 ?_
              refine v_goto (pc := 75) C 2 (by decide) dX7_moveBall_75 ?_
              refine v_lsub [1, 2, 0] rfl ?_
              refine v_st (g2 := mbG g (i + 1).toNat) C (by rw [show (i + 1).toNat = i.toNat + 1 by omega]; exact mb_s g i.toNat (by unfold stepR; (repeat' split) <;> omega) (by unfold stepP stepR; (repeat' split) <;> omega)) ?_
              exact ih2 (i + 1) (by omega) (by omega)
            · skip
              exfalso; omega
          · skip
            refine v_iconst (pc := 43) C dX7_moveBall_43 ?_
            refine v_goto (pc := 44) C 48 (by decide) dX7_moveBall_44 ?_
            refine pt_14_13 (pc := 48) C u_15_18 (by (first | assumption | omega | (simp [bl, up] <;> omega))) dX7_moveBall_48 ?_
            refine v_aload_n (pc := 51) C 0 rfl rfl dX7_moveBall_51 ?_
            refine v_dup (pc := 52) C rfl dX7_moveBall_52 ?_
            refine gt_14_12 (pc := 53) C u_15_17 dX7_moveBall_53 ((bwalk (g 15 0 0 0) i.toNat (g 14 0 0 12, g 14 0 0 13)).1) (by simp [mbG, up]) ?_
            refine v_aload_n (pc := 56) C 0 rfl rfl dX7_moveBall_56 ?_
            refine gt_14_13 (pc := 57) C u_15_18 dX7_moveBall_57 1 (by simp [up]) ?_
            refine v_if_eq (pc := 60) C 67 ⟨by (first | assumption | omega | (simp [bl, up] <;> omega)), by (first | assumption | omega | (simp [bl, up] <;> omega))⟩ (by decide) dX7_moveBall_60 (fun h60 => ?_) (fun h60 => ?_)
            · skip
              exfalso; omega
            · skip
              refine v_iconst (pc := 63) C dX7_moveBall_63 ?_
              refine v_goto (pc := 64) C 68 (by decide) dX7_moveBall_64 ?_
              refine v_iadd (pc := 68) C dX7_moveBall_68 ?_
              refine pt_14_12 (pc := 69) C u_15_17 dX7_moveBall_69 ?_
              refine v_iinc (pc := 72) C 2 [(2, .int (iI (i + 1))), (0, .ref (adr L 14 0 0)), (1, .int (iI n))] rfl (by decide) rfl dX7_moveBall_72 ?_
              refine v_goto (pc := 75) C 2 (by decide) dX7_moveBall_75 ?_
              refine v_lsub [1, 2, 0] rfl ?_
              refine v_st (g2 := mbG g (i + 1).toNat) C (by rw [show (i + 1).toNat = i.toNat + 1 by omega]; exact mb_s g i.toNat (by unfold stepR; (repeat' split) <;> omega) (by unfold stepP stepR; (repeat' split) <;> omega)) ?_
              exact ih2 (i + 1) (by omega) (by omega)
        · skip
          refine v_aload_n (pc := 15) C 0 rfl rfl dX7_moveBall_15 ?_
          refine gt_14_12 (pc := 16) C u_15_17 dX7_moveBall_16 ((bwalk (g 15 0 0 0) i.toNat (g 14 0 0 12, g 14 0 0 13)).1) (by simp [mbG, up]) ?_
          refine v_aload_n (pc := 19) C 0 rfl rfl dX7_moveBall_19 ?_
          refine gt_14_1 (pc := 20) C u_4_4 dX7_moveBall_20 ?_
          refine v_iconst (pc := 23) C dX7_moveBall_23 ?_
          refine al_15 (pc := 24) C ⟨by (first | assumption | omega | (simp [bl, up] <;> omega)), by (first | assumption | omega | (simp [bl, up] <;> omega))⟩ dX7_moveBall_24 (g 15 0 0 0) (by simp [mbG, up]) ?_
          refine v_icmp_ge (pc := 25) C 32 ⟨by (first | assumption | omega | (simp [bl, up] <;> omega)), by (first | assumption | omega | (simp [bl, up] <;> omega))⟩ ⟨by (first | assumption | omega | (simp [bl, up] <;> omega)), by (first | assumption | omega | (simp [bl, up] <;> omega))⟩ (by decide) dX7_moveBall_25 (fun h25 => ?_) (fun h25 => ?_)
          · skip
            refine v_iconst (pc := 32) C dX7_moveBall_32 ?_
            refine v_goto (pc := 33) C 48 (by decide) dX7_moveBall_33 ?_
            refine pt_14_13 (pc := 48) C u_15_18 (by (first | assumption | omega | (simp [bl, up] <;> omega))) dX7_moveBall_48 ?_
            refine v_aload_n (pc := 51) C 0 rfl rfl dX7_moveBall_51 ?_
            refine v_dup (pc := 52) C rfl dX7_moveBall_52 ?_
            refine gt_14_12 (pc := 53) C u_15_17 dX7_moveBall_53 ((bwalk (g 15 0 0 0) i.toNat (g 14 0 0 12, g 14 0 0 13)).1) (by simp [mbG, up]) ?_
            refine v_aload_n (pc := 56) C 0 rfl rfl dX7_moveBall_56 ?_
            refine gt_14_13 (pc := 57) C u_15_18 dX7_moveBall_57 0 (by simp [up]) ?_
            refine v_if_eq (pc := 60) C 67 ⟨by (first | assumption | omega | (simp [bl, up] <;> omega)), by (first | assumption | omega | (simp [bl, up] <;> omega))⟩ (by decide) dX7_moveBall_60 (fun h60 => ?_) (fun h60 => ?_)
            · skip
              refine v_iconst (pc := 67) C dX7_moveBall_67 ?_
              refine v_iadd (pc := 68) C dX7_moveBall_68 ?_
              refine pt_14_12 (pc := 69) C u_15_17 dX7_moveBall_69 ?_
              refine v_iinc (pc := 72) C 2 [(2, .int (iI (i + 1))), (0, .ref (adr L 14 0 0)), (1, .int (iI n))] rfl (by decide) rfl dX7_moveBall_72 ?_
              refine v_goto (pc := 75) C 2 (by decide) dX7_moveBall_75 ?_
              refine v_lsub [1, 2, 0] rfl ?_
              refine v_st (g2 := mbG g (i + 1).toNat) C (by rw [show (i + 1).toNat = i.toNat + 1 by omega]; exact mb_s g i.toNat (by unfold stepR; (repeat' split) <;> omega) (by unfold stepP stepR; (repeat' split) <;> omega)) ?_
              exact ih2 (i + 1) (by omega) (by omega)
            · skip
              exfalso; omega
          · skip
            refine v_iconst (pc := 28) C dX7_moveBall_28 ?_
            refine v_goto (pc := 29) C 48 (by decide) dX7_moveBall_29 ?_
            refine pt_14_13 (pc := 48) C u_15_18 (by (first | assumption | omega | (simp [bl, up] <;> omega))) dX7_moveBall_48 ?_
            refine v_aload_n (pc := 51) C 0 rfl rfl dX7_moveBall_51 ?_
            refine v_dup (pc := 52) C rfl dX7_moveBall_52 ?_
            refine gt_14_12 (pc := 53) C u_15_17 dX7_moveBall_53 ((bwalk (g 15 0 0 0) i.toNat (g 14 0 0 12, g 14 0 0 13)).1) (by simp [mbG, up]) ?_
            refine v_aload_n (pc := 56) C 0 rfl rfl dX7_moveBall_56 ?_
            refine gt_14_13 (pc := 57) C u_15_18 dX7_moveBall_57 1 (by simp [up]) ?_
            refine v_if_eq (pc := 60) C 67 ⟨by (first | assumption | omega | (simp [bl, up] <;> omega)), by (first | assumption | omega | (simp [bl, up] <;> omega))⟩ (by decide) dX7_moveBall_60 (fun h60 => ?_) (fun h60 => ?_)
            · skip
              exfalso; omega
            · skip
              refine v_iconst (pc := 63) C dX7_moveBall_63 ?_
              refine v_goto (pc := 64) C 68 (by decide) dX7_moveBall_64 ?_
              refine v_iadd (pc := 68) C dX7_moveBall_68 ?_
              refine pt_14_12 (pc := 69) C u_15_17 dX7_moveBall_69 ?_
              refine v_iinc (pc := 72) C 2 [(2, .int (iI (i + 1))), (0, .ref (adr L 14 0 0)), (1, .int (iI n))] rfl (by decide) rfl dX7_moveBall_72 ?_
              refine v_goto (pc := 75) C 2 (by decide) dX7_moveBall_75 ?_
              refine v_lsub [1, 2, 0] rfl ?_
              refine v_st (g2 := mbG g (i + 1).toNat) C (by rw [show (i + 1).toNat = i.toNat + 1 by omega]; exact mb_s g i.toNat (by unfold stepR; (repeat' split) <;> omega) (by unfold stepP stepR; (repeat' split) <;> omega)) ?_
              exact ih2 (i + 1) (by omega) (by omega)
  refine v_lsub [1, 2, 0] rfl ?_
  refine v_st (g2 := mbG g (0 : Int).toNat) C (by exact (mb_0 g).symm) ?_
  exact lb2 _ 0 (by omega) (Nat.lt_succ_self _)
set_option maxHeartbeats 4000000 in
set_option maxRecDepth 100000 in
theorem ct_X7_unfolded (l : Launch) (L : Lay) (g : St) (n : Int) (hn : 0 ≤ n ∧ n ≤ 100000) (hs : 8 ≤ g 15 0 0 0 ∧ g 15 0 0 0 ≤ 40) (hb : 0 ≤ g 15 0 0 4 ∧ g 15 0 0 4 ≤ g 15 0 0 0) (hr0 : g 15 0 0 6 = 0 ∨ g 15 0 0 6 = 1) : Met l yX7_unfolded (.code yX7_unfolded cX7_unfolded 4 (some .int) :: wsL_law) { frames := 0, cells := 0, slots := 0, locals := 0 } (va_Pc [.ref (adr L 14 0 0), .int (iI n)] (HS L g)) (va_Qi (fun (r9 : Int32) (u9 : St) => r9 = iI (unf (g 15 0 0 4) 1 (g 15 0 0 6) n (g 15 0 0 0)) ∧ u9 = g) (fun u t => HS L u t) (Af L)) 0 0 (Af L) := by
  refine ct_mk (by decide +kernel) (Nat.le_of_ble_eq_true rfl) ?_
  intro pp ee ss mm bel mth cx C hr hlk
  show V pp l ee { frames := 0, cells := 0, slots := 0, locals := 0 } ss mm ([.ref (adr L 14 0 0), .int (iI n)]).toArray bel mth cx 4 L (HH L g) 0 0 _ 0 [(0, .ref (adr L 14 0 0)), (1, .int (iI n))] []
  refine v_iconst (pc := 0) C dX7_unfolded_0 ?_
  refine v_aload_n (pc := 1) C 0 rfl rfl dX7_unfolded_1 ?_
  refine gt_14_1 (pc := 2) C u_4_4 dX7_unfolded_2 ?_
  refine v_iconst (pc := 5) C dX7_unfolded_5 ?_
  refine al_15 (pc := 6) C ⟨by (first | assumption | omega | (simp [bl, up] <;> omega)), by (first | assumption | omega | (simp [bl, up] <;> omega))⟩ dX7_unfolded_6 (g 15 0 0 0) (rfl) ?_
  refine v_imul (pc := 7) C dX7_unfolded_7 ?_
  refine v_istore_n (pc := 8) C [(2, .int (iI (2 * (g 15 0 0 0)))), (0, .ref (adr L 14 0 0)), (1, .int (iI n))] rfl (by decide) rfl dX7_unfolded_8 ?_
  refine v_aload_n (pc := 9) C 1 rfl rfl dX7_unfolded_9 ?_
  refine gt_14_1 (pc := 10) C u_4_4 dX7_unfolded_10 ?_
  refine v_bipush (pc := 13) C rfl dX7_unfolded_13 ?_
  refine al_15 (pc := 15) C ⟨by (first | assumption | omega | (simp [bl, up] <;> omega)), by (first | assumption | omega | (simp [bl, up] <;> omega))⟩ dX7_unfolded_15 (g 15 0 0 6) (rfl) ?_
  refine v_iconst (pc := 16) C dX7_unfolded_16 ?_
  refine v_icmp_ne (pc := 17) C 29 ⟨by (first | assumption | omega | (simp [bl, up] <;> omega)), by (first | assumption | omega | (simp [bl, up] <;> omega))⟩ ⟨by (first | assumption | omega | (simp [bl, up] <;> omega)), by (first | assumption | omega | (simp [bl, up] <;> omega))⟩ (by decide) dX7_unfolded_17 (fun h17 => ?_) (fun h17 => ?_)
  · skip
    refine v_iload_n (pc := 29) C 0 rfl rfl dX7_unfolded_29 ?_
    refine v_aload_n (pc := 30) C 1 rfl rfl dX7_unfolded_30 ?_
    refine gt_14_1 (pc := 31) C u_4_4 dX7_unfolded_31 ?_
    refine v_iconst (pc := 34) C dX7_unfolded_34 ?_
    refine al_15 (pc := 35) C ⟨by (first | assumption | omega | (simp [bl, up] <;> omega)), by (first | assumption | omega | (simp [bl, up] <;> omega))⟩ dX7_unfolded_35 (g 15 0 0 4) (rfl) ?_
    refine v_isub (pc := 36) C dX7_unfolded_36 ?_
    refine v_istore_n (pc := 37) C [(3, .int (iI ((2 * (g 15 0 0 0)) - (g 15 0 0 4)))), (2, .int (iI (2 * (g 15 0 0 0)))), (0, .ref (adr L 14 0 0)), (1, .int (iI n))] rfl (by decide) rfl dX7_unfolded_37 ?_
    refine v_iload_n (pc := 38) C 0 rfl rfl dX7_unfolded_38 ?_
    refine v_iload_n (pc := 39) C 3 rfl rfl dX7_unfolded_39 ?_
    refine v_iadd (pc := 40) C dX7_unfolded_40 ?_
    refine v_iload_n (pc := 41) C 1 rfl rfl dX7_unfolded_41 ?_
    refine v_irem (pc := 42) C (⟨⟨by (first | assumption | omega | (simp [bl, up] <;> omega)), by (first | assumption | omega | (simp [bl, up] <;> omega))⟩, ⟨by (first | assumption | omega | (simp [bl, up] <;> omega)), by (first | assumption | omega | (simp [bl, up] <;> omega))⟩, by (first | assumption | omega | (simp [bl, up] <;> omega)), by (first | assumption | omega | (simp [bl, up] <;> omega))⟩) dX7_unfolded_42 ?_
    refine v_istore_n (pc := 43) C [(3, .int (iI ((((2 * (g 15 0 0 0)) - (g 15 0 0 4)) + n) % (2 * (g 15 0 0 0))))), (2, .int (iI (2 * (g 15 0 0 0)))), (0, .ref (adr L 14 0 0)), (1, .int (iI n))] rfl (by decide) rfl dX7_unfolded_43 ?_
    have hm := emod_in (x := (((2 * (g 15 0 0 0)) - (g 15 0 0 4)) + n)) (b := 2 * g 15 0 0 0) (by omega)
    refine v_iload_n (pc := 44) C 0 rfl rfl dX7_unfolded_44 ?_
    refine v_aload_n (pc := 45) C 2 rfl rfl dX7_unfolded_45 ?_
    refine gt_14_1 (pc := 46) C u_4_4 dX7_unfolded_46 ?_
    refine v_iconst (pc := 49) C dX7_unfolded_49 ?_
    refine al_15 (pc := 50) C ⟨by (first | assumption | omega | (simp [bl, up] <;> omega)), by (first | assumption | omega | (simp [bl, up] <;> omega))⟩ dX7_unfolded_50 (g 15 0 0 0) (rfl) ?_
    refine v_icmp_gt (pc := 51) C 58 ⟨by (first | assumption | omega | (simp [bl, up] <;> omega)), by (first | assumption | omega | (simp [bl, up] <;> omega))⟩ ⟨by (first | assumption | omega | (simp [bl, up] <;> omega)), by (first | assumption | omega | (simp [bl, up] <;> omega))⟩ (by decide) dX7_unfolded_51 (fun h51 => ?_) (fun h51 => ?_)
    · skip
      refine v_iload_n (pc := 58) C 1 rfl rfl dX7_unfolded_58 ?_
      refine v_iload_n (pc := 59) C 0 rfl rfl dX7_unfolded_59 ?_
      refine v_isub (pc := 60) C dX7_unfolded_60 ?_
      exact v_iret (pc := 61) C hr hlk (⟨congrArg iI (by unfold unf; rw [Int.one_mul]; grind), rfl⟩) dX7_unfolded_61
    · skip
      refine v_iload_n (pc := 54) C 0 rfl rfl dX7_unfolded_54 ?_
      refine v_goto (pc := 55) C 61 (by decide) dX7_unfolded_55 ?_
      exact v_iret (pc := 61) C hr hlk (⟨congrArg iI (by unfold unf; rw [Int.one_mul]; grind), rfl⟩) dX7_unfolded_61
  · skip
    refine v_aload_n (pc := 20) C 1 rfl rfl dX7_unfolded_20 ?_
    refine gt_14_1 (pc := 21) C u_4_4 dX7_unfolded_21 ?_
    refine v_iconst (pc := 24) C dX7_unfolded_24 ?_
    refine al_15 (pc := 25) C ⟨by (first | assumption | omega | (simp [bl, up] <;> omega)), by (first | assumption | omega | (simp [bl, up] <;> omega))⟩ dX7_unfolded_25 (g 15 0 0 4) (rfl) ?_
    refine v_goto (pc := 26) C 37 (by decide) dX7_unfolded_26 ?_
    refine v_istore_n (pc := 37) C [(3, .int (iI (g 15 0 0 4))), (2, .int (iI (2 * (g 15 0 0 0)))), (0, .ref (adr L 14 0 0)), (1, .int (iI n))] rfl (by decide) rfl dX7_unfolded_37 ?_
    refine v_iload_n (pc := 38) C 0 rfl rfl dX7_unfolded_38 ?_
    refine v_iload_n (pc := 39) C 3 rfl rfl dX7_unfolded_39 ?_
    refine v_iadd (pc := 40) C dX7_unfolded_40 ?_
    refine v_iload_n (pc := 41) C 1 rfl rfl dX7_unfolded_41 ?_
    refine v_irem (pc := 42) C (⟨⟨by (first | assumption | omega | (simp [bl, up] <;> omega)), by (first | assumption | omega | (simp [bl, up] <;> omega))⟩, ⟨by (first | assumption | omega | (simp [bl, up] <;> omega)), by (first | assumption | omega | (simp [bl, up] <;> omega))⟩, by (first | assumption | omega | (simp [bl, up] <;> omega)), by (first | assumption | omega | (simp [bl, up] <;> omega))⟩) dX7_unfolded_42 ?_
    refine v_istore_n (pc := 43) C [(3, .int (iI (((g 15 0 0 4) + n) % (2 * (g 15 0 0 0))))), (2, .int (iI (2 * (g 15 0 0 0)))), (0, .ref (adr L 14 0 0)), (1, .int (iI n))] rfl (by decide) rfl dX7_unfolded_43 ?_
    have hm := emod_in (x := ((g 15 0 0 4) + n)) (b := 2 * g 15 0 0 0) (by omega)
    refine v_iload_n (pc := 44) C 0 rfl rfl dX7_unfolded_44 ?_
    refine v_aload_n (pc := 45) C 2 rfl rfl dX7_unfolded_45 ?_
    refine gt_14_1 (pc := 46) C u_4_4 dX7_unfolded_46 ?_
    refine v_iconst (pc := 49) C dX7_unfolded_49 ?_
    refine al_15 (pc := 50) C ⟨by (first | assumption | omega | (simp [bl, up] <;> omega)), by (first | assumption | omega | (simp [bl, up] <;> omega))⟩ dX7_unfolded_50 (g 15 0 0 0) (rfl) ?_
    refine v_icmp_gt (pc := 51) C 58 ⟨by (first | assumption | omega | (simp [bl, up] <;> omega)), by (first | assumption | omega | (simp [bl, up] <;> omega))⟩ ⟨by (first | assumption | omega | (simp [bl, up] <;> omega)), by (first | assumption | omega | (simp [bl, up] <;> omega))⟩ (by decide) dX7_unfolded_51 (fun h51 => ?_) (fun h51 => ?_)
    · skip
      refine v_iload_n (pc := 58) C 1 rfl rfl dX7_unfolded_58 ?_
      refine v_iload_n (pc := 59) C 0 rfl rfl dX7_unfolded_59 ?_
      refine v_isub (pc := 60) C dX7_unfolded_60 ?_
      exact v_iret (pc := 61) C hr hlk (⟨congrArg iI (by unfold unf; rw [Int.one_mul]; grind), rfl⟩) dX7_unfolded_61
    · skip
      refine v_iload_n (pc := 54) C 0 rfl rfl dX7_unfolded_54 ?_
      refine v_goto (pc := 55) C 61 (by decide) dX7_unfolded_55 ?_
      exact v_iret (pc := 61) C hr hlk (⟨congrArg iI (by unfold unf; rw [Int.one_mul]; grind), rfl⟩) dX7_unfolded_61
set_option maxHeartbeats 4000000 in
set_option maxRecDepth 100000 in
theorem ct_X7_sendOn (l : Launch) (L : Lay) (g : St) (w : Int) (hw : 0 ≤ w ∧ w ≤ 9) (hr0 : g 15 0 0 6 = 0 ∨ g 15 0 0 6 = 1) (hs : 1 ≤ g 15 0 0 5 ∧ g 15 0 0 5 ≤ 9) : Met l yX7_sendOn (.code yX7_sendOn cX7_sendOn 3 none :: wsL_law) { frames := 0, cells := 0, slots := 0, locals := 0 } (va_Pc [.ref (adr L 14 0 0), .int (iI w)] (HS L g)) (va_Qv (fun (u9 : St) => u9 = (up (up g 15 0 0 5 (fwS (g 15 0 0 5) w)) 15 0 0 6 (fwR (g 15 0 0 6) w))) (fun u t => HS L u t) (Af L)) 0 0 (Af L) := by
  refine ct_mk (by decide +kernel) (Nat.le_of_ble_eq_true rfl) ?_
  intro pp ee ss mm bel mth cx C hr hlk
  show V pp l ee { frames := 0, cells := 0, slots := 0, locals := 0 } ss mm ([.ref (adr L 14 0 0), .int (iI w)]).toArray bel mth cx 3 L (HH L g) 0 0 _ 0 [(0, .ref (adr L 14 0 0)), (1, .int (iI w))] []
  refine v_aload_n (pc := 0) C 0 rfl rfl dX7_sendOn_0 ?_
  refine gt_14_1 (pc := 1) C u_4_4 dX7_sendOn_1 ?_
  refine v_iconst (pc := 4) C dX7_sendOn_4 ?_
  refine al_15 (pc := 5) C ⟨by (first | assumption | omega | (simp [bl, up] <;> omega)), by (first | assumption | omega | (simp [bl, up] <;> omega))⟩ dX7_sendOn_5 (g 15 0 0 5) (rfl) ?_
  refine v_istore_n (pc := 6) C [(2, .int (iI (g 15 0 0 5))), (0, .ref (adr L 14 0 0)), (1, .int (iI w))] rfl (by decide) rfl dX7_sendOn_6 ?_
  refine v_iload_n (pc := 7) C 2 rfl rfl dX7_sendOn_7 ?_
  refine v_iconst (pc := 8) C dX7_sendOn_8 ?_
  refine v_irem (pc := 9) C (⟨⟨by (first | assumption | omega | (simp [bl, up] <;> omega)), by (first | assumption | omega | (simp [bl, up] <;> omega))⟩, ⟨by (first | assumption | omega | (simp [bl, up] <;> omega)), by (first | assumption | omega | (simp [bl, up] <;> omega))⟩, by (first | assumption | omega | (simp [bl, up] <;> omega)), by (first | assumption | omega | (simp [bl, up] <;> omega))⟩) dX7_sendOn_9 ?_
  by_cases h10_0 : w % 3 = 0
  · skip
    refine v_lookup (pc := 10) (o := 26) C 36 ⟨by (first | assumption | omega | (simp [bl, up] <;> omega)), by (first | assumption | omega | (simp [bl, up] <;> omega))⟩ (by decide +kernel) (by rw [h10_0]; decide +kernel) (by decide) dX7_sendOn_10 ?_
    refine v_aload_n (pc := 36) C 1 rfl rfl dX7_sendOn_36 ?_
    refine gt_14_1 (pc := 37) C u_4_4 dX7_sendOn_37 ?_
    refine v_bipush (pc := 40) C rfl dX7_sendOn_40 ?_
    refine v_iconst (pc := 42) C dX7_sendOn_42 ?_
    refine v_aload_n (pc := 43) C 1 rfl rfl dX7_sendOn_43 ?_
    refine gt_14_1 (pc := 44) C u_4_4 dX7_sendOn_44 ?_
    refine v_bipush (pc := 47) C rfl dX7_sendOn_47 ?_
    refine al_15 (pc := 49) C ⟨by (first | assumption | omega | (simp [bl, up] <;> omega)), by (first | assumption | omega | (simp [bl, up] <;> omega))⟩ dX7_sendOn_49 (g 15 0 0 6) (rfl) ?_
    refine v_isub (pc := 50) C dX7_sendOn_50 ?_
    refine as_15 (pc := 51) C ⟨by (first | assumption | omega | (simp [bl, up] <;> omega)), by (first | assumption | omega | (simp [bl, up] <;> omega))⟩ dX7_sendOn_51 ?_
    refine v_goto (pc := 52) C 96 (by decide) dX7_sendOn_52 ?_
    exact v_vret (pc := 96) C hr hlk (by funext f' k' j' i'; simp only [up, fwS, fwR]; grind) dX7_sendOn_96
  by_cases h10_1 : w % 3 = 1
  · skip
    refine v_lookup (pc := 10) (o := 45) C 55 ⟨by (first | assumption | omega | (simp [bl, up] <;> omega)), by (first | assumption | omega | (simp [bl, up] <;> omega))⟩ (by decide +kernel) (by rw [h10_1]; decide +kernel) (by decide) dX7_sendOn_10 ?_
    refine v_aload_n (pc := 55) C 1 rfl rfl dX7_sendOn_55 ?_
    refine gt_14_1 (pc := 56) C u_4_4 dX7_sendOn_56 ?_
    refine v_iconst (pc := 59) C dX7_sendOn_59 ?_
    refine v_iload_n (pc := 60) C 0 rfl rfl dX7_sendOn_60 ?_
    refine v_bipush (pc := 61) C rfl dX7_sendOn_61 ?_
    refine v_icmp_ge (pc := 63) C 72 ⟨by (first | assumption | omega | (simp [bl, up] <;> omega)), by (first | assumption | omega | (simp [bl, up] <;> omega))⟩ ⟨by (first | assumption | omega | (simp [bl, up] <;> omega)), by (first | assumption | omega | (simp [bl, up] <;> omega))⟩ (by decide) dX7_sendOn_63 (fun h63 => ?_) (fun h63 => ?_)
    · skip
      refine v_bipush (pc := 72) C rfl dX7_sendOn_72 ?_
      refine as_15 (pc := 74) C ⟨by (first | assumption | omega | (simp [bl, up] <;> omega)), by (first | assumption | omega | (simp [bl, up] <;> omega))⟩ dX7_sendOn_74 ?_
      refine v_goto (pc := 75) C 96 (by decide) dX7_sendOn_75 ?_
      exact v_vret (pc := 96) C hr hlk (by funext f' k' j' i'; simp only [up, fwS, fwR]; grind) dX7_sendOn_96
    · skip
      refine v_iload_n (pc := 66) C 0 rfl rfl dX7_sendOn_66 ?_
      refine v_iconst (pc := 67) C dX7_sendOn_67 ?_
      refine v_iadd (pc := 68) C dX7_sendOn_68 ?_
      refine v_goto (pc := 69) C 74 (by decide) dX7_sendOn_69 ?_
      refine as_15 (pc := 74) C ⟨by (first | assumption | omega | (simp [bl, up] <;> omega)), by (first | assumption | omega | (simp [bl, up] <;> omega))⟩ dX7_sendOn_74 ?_
      refine v_goto (pc := 75) C 96 (by decide) dX7_sendOn_75 ?_
      exact v_vret (pc := 96) C hr hlk (by funext f' k' j' i'; simp only [up, fwS, fwR]; grind) dX7_sendOn_96
  refine v_lookup (pc := 10) (o := 68) C 78 ⟨by (first | assumption | omega | (simp [bl, up] <;> omega)), by (first | assumption | omega | (simp [bl, up] <;> omega))⟩ (by decide +kernel) (by simp [Op.lookupswitch.offset, h10_0, h10_1, Ne.symm h10_0, Ne.symm h10_1]) (by decide) dX7_sendOn_10 ?_
  refine v_aload_n (pc := 78) C 1 rfl rfl dX7_sendOn_78 ?_
  refine gt_14_1 (pc := 79) C u_4_4 dX7_sendOn_79 ?_
  refine v_iconst (pc := 82) C dX7_sendOn_82 ?_
  refine v_iload_n (pc := 83) C 0 rfl rfl dX7_sendOn_83 ?_
  refine v_iconst (pc := 84) C dX7_sendOn_84 ?_
  refine v_icmp_le (pc := 85) C 94 ⟨by (first | assumption | omega | (simp [bl, up] <;> omega)), by (first | assumption | omega | (simp [bl, up] <;> omega))⟩ ⟨by (first | assumption | omega | (simp [bl, up] <;> omega)), by (first | assumption | omega | (simp [bl, up] <;> omega))⟩ (by decide) dX7_sendOn_85 (fun h85 => ?_) (fun h85 => ?_)
  · skip
    refine v_iconst (pc := 94) C dX7_sendOn_94 ?_
    refine as_15 (pc := 95) C ⟨by (first | assumption | omega | (simp [bl, up] <;> omega)), by (first | assumption | omega | (simp [bl, up] <;> omega))⟩ dX7_sendOn_95 ?_
    exact v_vret (pc := 96) C hr hlk (by funext f' k' j' i'; simp only [up, fwS, fwR]; grind) dX7_sendOn_96
  · skip
    refine v_iload_n (pc := 88) C 0 rfl rfl dX7_sendOn_88 ?_
    refine v_iconst (pc := 89) C dX7_sendOn_89 ?_
    refine v_isub (pc := 90) C dX7_sendOn_90 ?_
    refine v_goto (pc := 91) C 95 (by decide) dX7_sendOn_91 ?_
    refine as_15 (pc := 95) C ⟨by (first | assumption | omega | (simp [bl, up] <;> omega)), by (first | assumption | omega | (simp [bl, up] <;> omega))⟩ dX7_sendOn_95 ?_
    exact v_vret (pc := 96) C hr hlk (by funext f' k' j' i'; simp only [up, fwS, fwR]; grind) dX7_sendOn_96
set_option maxHeartbeats 4000000 in
set_option maxRecDepth 100000 in
theorem ct_X7_delay (l : Launch) (L : Lay) (g : St) (p w : Int) (hS0 : 8 ≤ g 15 0 0 0 ∧ g 15 0 0 0 ≤ 40) (hS1 : 1 ≤ g 15 0 0 1 ∧ g 15 0 0 1 ≤ 9) (hS2 : 0 ≤ g 15 0 0 2 ∧ g 15 0 0 2 ≤ 5) (hp : 0 ≤ p ∧ p ≤ g 15 0 0 0) (hw : 0 ≤ w ∧ w ≤ 1) : Met l yX7_delay (.code yX7_delay cX7_delay 5 (some .int) :: wsL_law) { frames := 0, cells := 0, slots := 0, locals := 0 } (va_Pc [.ref (adr L 14 0 0), .int (iI p), .int (iI w)] (HS L g)) (va_Qi (fun (r9 : Int32) (u9 : St) => r9 = iI (mDl g p w) ∧ u9 = g) (fun u t => HS L u t) (Af L)) 0 0 (Af L) := by
  refine ct_mk (by decide +kernel) (Nat.le_of_ble_eq_true rfl) ?_
  intro pp ee ss mm bel mth cx C hr hlk
  show V pp l ee { frames := 0, cells := 0, slots := 0, locals := 0 } ss mm ([.ref (adr L 14 0 0), .int (iI p), .int (iI w)]).toArray bel mth cx 5 L (HH L g) 0 0 _ 0 [(0, .ref (adr L 14 0 0)), (1, .int (iI p)), (2, .int (iI w))] []
  refine v_iconst (pc := 0) C dX7_delay_0 ?_
  refine v_iload_n (pc := 1) C 2 rfl rfl dX7_delay_1 ?_
  refine v_if_ne (pc := 2) C 9 ⟨by (first | assumption | omega | (simp [bl, up] <;> omega)), by (first | assumption | omega | (simp [bl, up] <;> omega))⟩ (by decide) dX7_delay_2 (fun h2 => ?_) (fun h2 => ?_)
  · skip
    refine v_aload_n (pc := 9) C 0 rfl rfl dX7_delay_9 ?_
    refine gt_14_1 (pc := 10) C u_4_4 dX7_delay_10 ?_
    refine v_iconst (pc := 13) C dX7_delay_13 ?_
    refine al_15 (pc := 14) C ⟨by (first | assumption | omega | (simp [bl, up] <;> omega)), by (first | assumption | omega | (simp [bl, up] <;> omega))⟩ dX7_delay_14 (g 15 0 0 0) (rfl) ?_
    refine v_iload_n (pc := 15) C 1 rfl rfl dX7_delay_15 ?_
    refine v_isub (pc := 16) C dX7_delay_16 ?_
    refine v_imul (pc := 17) C dX7_delay_17 ?_
    refine v_istore_n (pc := 18) C [(3, .int (iI (2 * ((g 15 0 0 0) - p)))), (0, .ref (adr L 14 0 0)), (1, .int (iI p)), (2, .int (iI w))] rfl (by decide) rfl dX7_delay_18 ?_
    refine v_iload_n (pc := 19) C 0 rfl rfl dX7_delay_19 ?_
    refine v_aload_n (pc := 20) C 1 rfl rfl dX7_delay_20 ?_
    refine gt_14_1 (pc := 21) C u_4_4 dX7_delay_21 ?_
    refine v_iconst (pc := 24) C dX7_delay_24 ?_
    refine al_15 (pc := 25) C ⟨by (first | assumption | omega | (simp [bl, up] <;> omega)), by (first | assumption | omega | (simp [bl, up] <;> omega))⟩ dX7_delay_25 (g 15 0 0 1) (rfl) ?_
    refine v_iadd (pc := 26) C dX7_delay_26 ?_
    refine v_iconst (pc := 27) C dX7_delay_27 ?_
    refine v_isub (pc := 28) C dX7_delay_28 ?_
    refine v_aload_n (pc := 29) C 1 rfl rfl dX7_delay_29 ?_
    refine gt_14_1 (pc := 30) C u_4_4 dX7_delay_30 ?_
    refine v_iconst (pc := 33) C dX7_delay_33 ?_
    refine al_15 (pc := 34) C ⟨by (first | assumption | omega | (simp [bl, up] <;> omega)), by (first | assumption | omega | (simp [bl, up] <;> omega))⟩ dX7_delay_34 (g 15 0 0 1) (rfl) ?_
    refine v_idiv (pc := 35) C (⟨⟨by (first | assumption | omega | (simp [bl, up] <;> omega)), by (first | assumption | omega | (simp [bl, up] <;> omega))⟩, ⟨by (first | assumption | omega | (simp [bl, up] <;> omega)), by (first | assumption | omega | (simp [bl, up] <;> omega))⟩, by (first | assumption | omega | (simp [bl, up] <;> omega)), by (first | assumption | omega | (simp [bl, up] <;> omega))⟩) dX7_delay_35 ?_
    have hq : 0 ≤ (((2 * ((g 15 0 0 0) - p)) + (g 15 0 0 1)) - 1) / (g 15 0 0 1) ∧ (((2 * ((g 15 0 0 0) - p)) + (g 15 0 0 1)) - 1) / (g 15 0 0 1) ≤ 90 := ⟨Int.ediv_nonneg (by omega) (by omega), Int.le_trans (Int.ediv_le_self _ (by omega)) (by omega)⟩
    refine v_aload_n (pc := 36) C 1 rfl rfl dX7_delay_36 ?_
    refine gt_14_1 (pc := 37) C u_4_4 dX7_delay_37 ?_
    refine v_iconst (pc := 40) C dX7_delay_40 ?_
    refine al_15 (pc := 41) C ⟨by (first | assumption | omega | (simp [bl, up] <;> omega)), by (first | assumption | omega | (simp [bl, up] <;> omega))⟩ dX7_delay_41 (g 15 0 0 2) (rfl) ?_
    refine v_iadd (pc := 42) C dX7_delay_42 ?_
    refine v_istore (pc := 43) C [(4, .int (iI (((((2 * ((g 15 0 0 0) - p)) + (g 15 0 0 1)) - 1) / (g 15 0 0 1)) + (g 15 0 0 2)))), (3, .int (iI (2 * ((g 15 0 0 0) - p)))), (0, .ref (adr L 14 0 0)), (1, .int (iI p)), (2, .int (iI w))] (by decide) rfl dX7_delay_43 ?_
    refine v_iload (pc := 45) C 0 rfl dX7_delay_45 ?_
    refine v_iconst (pc := 47) C dX7_delay_47 ?_
    refine v_icmp_ge (pc := 48) C 55 ⟨by (first | assumption | omega | (simp [bl, up] <;> omega)), by (first | assumption | omega | (simp [bl, up] <;> omega))⟩ ⟨by (first | assumption | omega | (simp [bl, up] <;> omega)), by (first | assumption | omega | (simp [bl, up] <;> omega))⟩ (by decide) dX7_delay_48 (fun h48 => ?_) (fun h48 => ?_)
    · skip
      refine v_iload (pc := 55) C 0 rfl dX7_delay_55 ?_
      exact v_iret (pc := 57) C hr hlk (⟨congrArg iI (by unfold mDl dly; first | (rw [if_neg h2]; omega) | (rw [if_pos (by omega)]; omega)), rfl⟩) dX7_delay_57
    · skip
      refine v_iconst (pc := 51) C dX7_delay_51 ?_
      refine v_goto (pc := 52) C 57 (by decide) dX7_delay_52 ?_
      exact v_iret (pc := 57) C hr hlk (⟨congrArg iI (by unfold mDl dly; first | (rw [if_neg h2]; omega) | (rw [if_pos (by omega)]; omega)), rfl⟩) dX7_delay_57
  · skip
    refine v_iload_n (pc := 5) C 1 rfl rfl dX7_delay_5 ?_
    refine v_goto (pc := 6) C 17 (by decide) dX7_delay_6 ?_
    refine v_imul (pc := 17) C dX7_delay_17 ?_
    refine v_istore_n (pc := 18) C [(3, .int (iI (2 * p))), (0, .ref (adr L 14 0 0)), (1, .int (iI p)), (2, .int (iI w))] rfl (by decide) rfl dX7_delay_18 ?_
    refine v_iload_n (pc := 19) C 0 rfl rfl dX7_delay_19 ?_
    refine v_aload_n (pc := 20) C 1 rfl rfl dX7_delay_20 ?_
    refine gt_14_1 (pc := 21) C u_4_4 dX7_delay_21 ?_
    refine v_iconst (pc := 24) C dX7_delay_24 ?_
    refine al_15 (pc := 25) C ⟨by (first | assumption | omega | (simp [bl, up] <;> omega)), by (first | assumption | omega | (simp [bl, up] <;> omega))⟩ dX7_delay_25 (g 15 0 0 1) (rfl) ?_
    refine v_iadd (pc := 26) C dX7_delay_26 ?_
    refine v_iconst (pc := 27) C dX7_delay_27 ?_
    refine v_isub (pc := 28) C dX7_delay_28 ?_
    refine v_aload_n (pc := 29) C 1 rfl rfl dX7_delay_29 ?_
    refine gt_14_1 (pc := 30) C u_4_4 dX7_delay_30 ?_
    refine v_iconst (pc := 33) C dX7_delay_33 ?_
    refine al_15 (pc := 34) C ⟨by (first | assumption | omega | (simp [bl, up] <;> omega)), by (first | assumption | omega | (simp [bl, up] <;> omega))⟩ dX7_delay_34 (g 15 0 0 1) (rfl) ?_
    refine v_idiv (pc := 35) C (⟨⟨by (first | assumption | omega | (simp [bl, up] <;> omega)), by (first | assumption | omega | (simp [bl, up] <;> omega))⟩, ⟨by (first | assumption | omega | (simp [bl, up] <;> omega)), by (first | assumption | omega | (simp [bl, up] <;> omega))⟩, by (first | assumption | omega | (simp [bl, up] <;> omega)), by (first | assumption | omega | (simp [bl, up] <;> omega))⟩) dX7_delay_35 ?_
    have hq : 0 ≤ (((2 * p) + (g 15 0 0 1)) - 1) / (g 15 0 0 1) ∧ (((2 * p) + (g 15 0 0 1)) - 1) / (g 15 0 0 1) ≤ 90 := ⟨Int.ediv_nonneg (by omega) (by omega), Int.le_trans (Int.ediv_le_self _ (by omega)) (by omega)⟩
    refine v_aload_n (pc := 36) C 1 rfl rfl dX7_delay_36 ?_
    refine gt_14_1 (pc := 37) C u_4_4 dX7_delay_37 ?_
    refine v_iconst (pc := 40) C dX7_delay_40 ?_
    refine al_15 (pc := 41) C ⟨by (first | assumption | omega | (simp [bl, up] <;> omega)), by (first | assumption | omega | (simp [bl, up] <;> omega))⟩ dX7_delay_41 (g 15 0 0 2) (rfl) ?_
    refine v_iadd (pc := 42) C dX7_delay_42 ?_
    refine v_istore (pc := 43) C [(4, .int (iI (((((2 * p) + (g 15 0 0 1)) - 1) / (g 15 0 0 1)) + (g 15 0 0 2)))), (3, .int (iI (2 * p))), (0, .ref (adr L 14 0 0)), (1, .int (iI p)), (2, .int (iI w))] (by decide) rfl dX7_delay_43 ?_
    refine v_iload (pc := 45) C 0 rfl dX7_delay_45 ?_
    refine v_iconst (pc := 47) C dX7_delay_47 ?_
    refine v_icmp_ge (pc := 48) C 55 ⟨by (first | assumption | omega | (simp [bl, up] <;> omega)), by (first | assumption | omega | (simp [bl, up] <;> omega))⟩ ⟨by (first | assumption | omega | (simp [bl, up] <;> omega)), by (first | assumption | omega | (simp [bl, up] <;> omega))⟩ (by decide) dX7_delay_48 (fun h48 => ?_) (fun h48 => ?_)
    · skip
      refine v_iload (pc := 55) C 0 rfl dX7_delay_55 ?_
      exact v_iret (pc := 57) C hr hlk (⟨congrArg iI (by unfold mDl dly; first | (rw [if_neg h2]; omega) | (rw [if_pos (by omega)]; omega)), rfl⟩) dX7_delay_57
    · skip
      refine v_iconst (pc := 51) C dX7_delay_51 ?_
      refine v_goto (pc := 52) C 57 (by decide) dX7_delay_52 ?_
      exact v_iret (pc := 57) C hr hlk (⟨congrArg iI (by unfold mDl dly; first | (rw [if_neg h2]; omega) | (rw [if_pos (by omega)]; omega)), rfl⟩) dX7_delay_57
set_option maxHeartbeats 4000000 in
set_option maxRecDepth 100000 in
theorem ct_X7_underWay (l : Launch) (L : Lay) (g : St) (d p : Int) (hm : wm (g 15 0 0) d) (hd : 0 ≤ d ∧ d ≤ 1) (hp : 0 ≤ p ∧ p < 4) : Met l yX7_underWay (.code yX7_underWay cX7_underWay 4 (some .int) :: wsL_law) { frames := 1, cells := 0, slots := 0, locals := 22 } (va_Pc [.ref (adr L 14 0 0), .int (iI p)] (HS L g)) (va_Qi (fun (r9 : Int32) (u9 : St) => r9 = iI (mUw g p) ∧ u9 = g) (fun u t => HS L u t) (Af L)) 0 0 (Af L) := by
  refine ct_mk (by decide +kernel) (Nat.le_of_ble_eq_true rfl) ?_
  intro pp ee ss mm bel mth cx C hr hlk
  show V pp l ee { frames := 1, cells := 0, slots := 0, locals := 22 } ss mm ([.ref (adr L 14 0 0), .int (iI p)]).toArray bel mth cx 4 L (HH L g) 0 0 _ 0 [(0, .ref (adr L 14 0 0)), (1, .int (iI p))] []
  obtain ⟨mS0, mS1, mS2, mB0, mB1, mB2, mCl, mN, mPl, mEc⟩ := id hm
  refine v_iconst (pc := 0) C dX7_underWay_0 ?_
  refine v_istore_n (pc := 1) C [(2, .int (iI 0)), (0, .ref (adr L 14 0 0)), (1, .int (iI p))] rfl (by decide) rfl dX7_underWay_1 ?_
  refine v_iconst (pc := 2) C dX7_underWay_2 ?_
  refine v_istore_n (pc := 3) C [(3, .int (iI 0)), (2, .int (iI 0)), (0, .ref (adr L 14 0 0)), (1, .int (iI p))] rfl (by decide) rfl dX7_underWay_3 ?_
  have lb4 : ∀ (n9 : Nat) (i : Int) (q : Int), (0 ≤ i ∧ i ≤ g 15 0 0 9) → (q = cn (mOf g p) i.toNat) → (g 15 0 0 9 - i).toNat < n9 → V pp l ee { frames := 1, cells := 0, slots := 0, locals := 22 } ss mm ([.ref (adr L 14 0 0), .int (iI p)]).toArray bel mth cx 4 L (HH L g) 0 0 (MQ bel (va_Qi (fun (r9 : Int32) (u9 : St) => r9 = iI (mUw g p) ∧ u9 = g) (fun u t => HS L u t) (Af L)) ([.ref (adr L 14 0 0), .int (iI p)]).toArray ss 0 0 (Af L)) 4 [(0, .ref (adr L 14 0 0)), (1, .int (iI p)), (2, .int (iI q)), (3, .int (iI i))] [] := by
    intro n9
    induction n9 with
    | zero => intro i q hi hq hm9; exact absurd hm9 (Nat.not_lt_zero _)
    | succ n9 ih9 =>
      intro i q hi hq hm9
      have ih4 := ih9
      refine v_iload_n (pc := 4) C 3 rfl rfl dX7_underWay_4 ?_
      refine v_aload_n (pc := 5) C 0 rfl rfl dX7_underWay_5 ?_
      refine gt_14_1 (pc := 6) C u_4_4 dX7_underWay_6 ?_
      refine v_bipush (pc := 9) C rfl dX7_underWay_9 ?_
      refine al_15 (pc := 11) C ⟨by (first | assumption | omega | (simp [bl, up] <;> omega)), by (first | assumption | omega | (simp [bl, up] <;> omega))⟩ dX7_underWay_11 (g 15 0 0 9) (rfl) ?_
      refine v_icmp_ge (pc := 12) C 39 ⟨by (first | assumption | omega | (simp [bl, up] <;> omega)), by (first | assumption | omega | (simp [bl, up] <;> omega))⟩ ⟨by (first | assumption | omega | (simp [bl, up] <;> omega)), by (first | assumption | omega | (simp [bl, up] <;> omega))⟩ (by decide) dX7_underWay_12 (fun h12 => ?_) (fun h12 => ?_)
      · skip
        refine v_iload_n (pc := 39) C 2 rfl rfl dX7_underWay_39 ?_
        exact v_iret (pc := 40) C hr hlk (⟨congrArg iI (by rw [hq, show i = g 15 0 0 9 by omega]), rfl⟩) dX7_underWay_40
      · skip
        have he := mEc i (by omega) (by omega)
        unfold okM at he
        refine v_iload_n (pc := 15) C 2 rfl rfl dX7_underWay_15 ?_
        refine v_aload_n (pc := 16) C 0 rfl rfl dX7_underWay_16 ?_
        refine v_iload_n (pc := 17) C 3 rfl rfl dX7_underWay_17 ?_
        refine v_iconst (pc := 18) C dX7_underWay_18 ?_
        refine v_calliV (pc := 19) C cw_RX7_54 rcv_14 (ct_X7_ofEcho l L g i 0 (by first | assumption | omega | (simp [bl, up] <;> omega)) (by first | assumption | omega | (simp [bl, up] <;> omega))) ⟨Nat.le_of_ble_eq_true rfl, Nat.le_of_ble_eq_true rfl⟩ rfl (Nat.le_of_ble_eq_true rfl) ⟨Nat.le_of_ble_eq_true rfl, Nat.le_of_ble_eq_true rfl⟩ rfl dX7_underWay_19 (fun r9 u9 hP_1 => ?_)
        obtain ⟨hP_1, hP_1b⟩ := hP_1
        rw [hP_1, hP_1b]
        clear hP_1 hP_1b r9 u9
        refine v_iload_n (pc := 22) C 1 rfl rfl dX7_underWay_22 ?_
        refine v_icmp_ne (pc := 23) C 30 ⟨by (first | assumption | omega | (simp [bl, up] <;> omega)), by (first | assumption | omega | (simp [bl, up] <;> omega))⟩ ⟨by (first | assumption | omega | (simp [bl, up] <;> omega)), by (first | assumption | omega | (simp [bl, up] <;> omega))⟩ (by decide) dX7_underWay_23 (fun h23 => ?_) (fun h23 => ?_)
        · skip
          refine v_iconst (pc := 30) C dX7_underWay_30 ?_
          refine v_iadd (pc := 31) C dX7_underWay_31 ?_
          refine v_istore_n (pc := 32) C [(2, .int (iI (q + 0))), (0, .ref (adr L 14 0 0)), (1, .int (iI p)), (3, .int (iI i))] rfl (by decide) rfl dX7_underWay_32 ?_
          refine v_iinc (pc := 33) C 3 [(3, .int (iI (i + 1))), (2, .int (iI (q + 0))), (0, .ref (adr L 14 0 0)), (1, .int (iI p))] rfl (by decide) rfl dX7_underWay_33 ?_
          refine v_goto (pc := 36) C 4 (by decide) dX7_underWay_36 ?_
          refine v_lsub [2, 3, 1, 0] rfl ?_
          exact ih4 (i + 1) (q + 0) (by omega) (by rw [cn_s hi.1]; simp only [mOf, decide_eq_true_eq]; split <;> omega) (by omega)
        · skip
          refine v_iconst (pc := 26) C dX7_underWay_26 ?_
          refine v_goto (pc := 27) C 31 (by decide) dX7_underWay_27 ?_
          refine v_iadd (pc := 31) C dX7_underWay_31 ?_
          refine v_istore_n (pc := 32) C [(2, .int (iI (q + 1))), (0, .ref (adr L 14 0 0)), (1, .int (iI p)), (3, .int (iI i))] rfl (by decide) rfl dX7_underWay_32 ?_
          refine v_iinc (pc := 33) C 3 [(3, .int (iI (i + 1))), (2, .int (iI (q + 1))), (0, .ref (adr L 14 0 0)), (1, .int (iI p))] rfl (by decide) rfl dX7_underWay_33 ?_
          refine v_goto (pc := 36) C 4 (by decide) dX7_underWay_36 ?_
          refine v_lsub [2, 3, 1, 0] rfl ?_
          exact ih4 (i + 1) (q + 1) (by omega) (by rw [cn_s hi.1]; simp only [mOf, decide_eq_true_eq]; split <;> omega) (by omega)
  refine v_lsub [2, 3, 1, 0] rfl ?_
  exact lb4 _ 0 0 (by omega) (by rfl) (Nat.lt_succ_self _)
set_option maxHeartbeats 4000000 in
set_option maxRecDepth 100000 in
theorem ct_X7_comingTo (l : Launch) (L : Lay) (g : St) (d p t : Int) (hm : wm (g 15 0 0) d) (hd : 0 ≤ d ∧ d ≤ 1) (hrp : rg p) (hrt : rg t) : Met l yX7_comingTo (.code yX7_comingTo cX7_comingTo 5 (some .int) :: wsL_law) { frames := 1, cells := 0, slots := 0, locals := 22 } (va_Pc [.ref (adr L 14 0 0), .int (iI p), .int (iI t)] (HS L g)) (va_Qi (fun (r9 : Int32) (u9 : St) => r9 = iI (mCo g p t) ∧ u9 = g) (fun u t => HS L u t) (Af L)) 0 0 (Af L) := by
  refine ct_mk (by decide +kernel) (Nat.le_of_ble_eq_true rfl) ?_
  intro pp ee ss mm bel mth cx C hr hlk
  show V pp l ee { frames := 1, cells := 0, slots := 0, locals := 22 } ss mm ([.ref (adr L 14 0 0), .int (iI p), .int (iI t)]).toArray bel mth cx 5 L (HH L g) 0 0 _ 0 [(0, .ref (adr L 14 0 0)), (1, .int (iI p)), (2, .int (iI t))] []
  obtain ⟨mS0, mS1, mS2, mB0, mB1, mB2, mCl, mN, mPl, mEc⟩ := id hm
  unfold rg at hrp hrt
  refine v_iconst (pc := 0) C dX7_comingTo_0 ?_
  refine v_istore_n (pc := 1) C [(3, .int (iI 0)), (0, .ref (adr L 14 0 0)), (1, .int (iI p)), (2, .int (iI t))] rfl (by decide) rfl dX7_comingTo_1 ?_
  refine v_iconst (pc := 2) C dX7_comingTo_2 ?_
  refine v_istore (pc := 3) C [(4, .int (iI 0)), (3, .int (iI 0)), (0, .ref (adr L 14 0 0)), (1, .int (iI p)), (2, .int (iI t))] (by decide) rfl dX7_comingTo_3 ?_
  have lb5 : ∀ (n9 : Nat) (i : Int) (q : Int), (0 ≤ i ∧ i ≤ g 15 0 0 9) → (q = cn (mDu g p t) i.toNat) → (g 15 0 0 9 - i).toNat < n9 → V pp l ee { frames := 1, cells := 0, slots := 0, locals := 22 } ss mm ([.ref (adr L 14 0 0), .int (iI p), .int (iI t)]).toArray bel mth cx 5 L (HH L g) 0 0 (MQ bel (va_Qi (fun (r9 : Int32) (u9 : St) => r9 = iI (mCo g p t) ∧ u9 = g) (fun u t => HS L u t) (Af L)) ([.ref (adr L 14 0 0), .int (iI p), .int (iI t)]).toArray ss 0 0 (Af L)) 5 [(0, .ref (adr L 14 0 0)), (1, .int (iI p)), (2, .int (iI t)), (3, .int (iI q)), (4, .int (iI i))] [] := by
    intro n9
    induction n9 with
    | zero => intro i q hi hq hm9; exact absurd hm9 (Nat.not_lt_zero _)
    | succ n9 ih9 =>
      intro i q hi hq hm9
      have ih5 := ih9
      refine v_iload (pc := 5) C 4 rfl dX7_comingTo_5 ?_
      refine v_aload_n (pc := 7) C 0 rfl rfl dX7_comingTo_7 ?_
      refine gt_14_1 (pc := 8) C u_4_4 dX7_comingTo_8 ?_
      refine v_bipush (pc := 11) C rfl dX7_comingTo_11 ?_
      refine al_15 (pc := 13) C ⟨by (first | assumption | omega | (simp [bl, up] <;> omega)), by (first | assumption | omega | (simp [bl, up] <;> omega))⟩ dX7_comingTo_13 (g 15 0 0 9) (rfl) ?_
      refine v_icmp_ge (pc := 14) C 53 ⟨by (first | assumption | omega | (simp [bl, up] <;> omega)), by (first | assumption | omega | (simp [bl, up] <;> omega))⟩ ⟨by (first | assumption | omega | (simp [bl, up] <;> omega)), by (first | assumption | omega | (simp [bl, up] <;> omega))⟩ (by decide) dX7_comingTo_14 (fun h14 => ?_) (fun h14 => ?_)
      · skip
        refine v_iload_n (pc := 53) C 3 rfl rfl dX7_comingTo_53 ?_
        exact v_iret (pc := 54) C hr hlk (⟨congrArg iI (by rw [hq, show i = g 15 0 0 9 by omega]), rfl⟩) dX7_comingTo_54
      · skip
        have he := mEc i (by omega) (by omega)
        unfold okM at he
        refine v_iload_n (pc := 17) C 3 rfl rfl dX7_comingTo_17 ?_
        refine v_aload_n (pc := 18) C 0 rfl rfl dX7_comingTo_18 ?_
        refine v_iload (pc := 19) C 4 rfl dX7_comingTo_19 ?_
        refine v_iconst (pc := 21) C dX7_comingTo_21 ?_
        refine v_calliV (pc := 22) C cw_RX7_54 rcv_14 (ct_X7_ofEcho l L g i 1 (by first | assumption | omega | (simp [bl, up] <;> omega)) (by first | assumption | omega | (simp [bl, up] <;> omega))) ⟨Nat.le_of_ble_eq_true rfl, Nat.le_of_ble_eq_true rfl⟩ rfl (Nat.le_of_ble_eq_true rfl) ⟨Nat.le_of_ble_eq_true rfl, Nat.le_of_ble_eq_true rfl⟩ rfl dX7_comingTo_22 (fun r9 u9 hP_1 => ?_)
        obtain ⟨hP_1, hP_1b⟩ := hP_1
        rw [hP_1, hP_1b]
        clear hP_1 hP_1b r9 u9
        refine v_iload_n (pc := 25) C 1 rfl rfl dX7_comingTo_25 ?_
        refine v_icmp_ne (pc := 26) C 44 ⟨by (first | assumption | omega | (simp [bl, up] <;> omega)), by (first | assumption | omega | (simp [bl, up] <;> omega))⟩ ⟨by (first | assumption | omega | (simp [bl, up] <;> omega)), by (first | assumption | omega | (simp [bl, up] <;> omega))⟩ (by decide) dX7_comingTo_26 (fun h26 => ?_) (fun h26 => ?_)
        · skip
          refine v_iconst (pc := 44) C dX7_comingTo_44 ?_
          refine v_iadd (pc := 45) C dX7_comingTo_45 ?_
          refine v_istore_n (pc := 46) C [(3, .int (iI (q + 0))), (0, .ref (adr L 14 0 0)), (1, .int (iI p)), (2, .int (iI t)), (4, .int (iI i))] rfl (by decide) rfl dX7_comingTo_46 ?_
          refine v_iinc (pc := 47) C 4 [(4, .int (iI (i + 1))), (3, .int (iI (q + 0))), (0, .ref (adr L 14 0 0)), (1, .int (iI p)), (2, .int (iI t))] rfl (by decide) rfl dX7_comingTo_47 ?_
          refine v_goto (pc := 50) C 5 (by decide) dX7_comingTo_50 ?_
          refine v_lsub [2, 3, 4, 1, 0] rfl ?_
          exact ih5 (i + 1) (q + 0) (by omega) (by rw [cn_s hi.1]; simp only [mDu, decide_eq_true_eq]; split <;> omega) (by omega)
        · skip
          refine v_aload_n (pc := 29) C 0 rfl rfl dX7_comingTo_29 ?_
          refine v_iload (pc := 30) C 4 rfl dX7_comingTo_30 ?_
          refine v_iconst (pc := 32) C dX7_comingTo_32 ?_
          refine v_calliV (pc := 33) C cw_RX7_54 rcv_14 (ct_X7_ofEcho l L g i 3 (by first | assumption | omega | (simp [bl, up] <;> omega)) (by first | assumption | omega | (simp [bl, up] <;> omega))) ⟨Nat.le_of_ble_eq_true rfl, Nat.le_of_ble_eq_true rfl⟩ rfl (Nat.le_of_ble_eq_true rfl) ⟨Nat.le_of_ble_eq_true rfl, Nat.le_of_ble_eq_true rfl⟩ rfl dX7_comingTo_33 (fun r9 u9 hP_2 => ?_)
          obtain ⟨hP_2, hP_2b⟩ := hP_2
          rw [hP_2, hP_2b]
          clear hP_2 hP_2b r9 u9
          refine v_iload_n (pc := 36) C 2 rfl rfl dX7_comingTo_36 ?_
          refine v_icmp_ne (pc := 37) C 44 ⟨by (first | assumption | omega | (simp [bl, up] <;> omega)), by (first | assumption | omega | (simp [bl, up] <;> omega))⟩ ⟨by (first | assumption | omega | (simp [bl, up] <;> omega)), by (first | assumption | omega | (simp [bl, up] <;> omega))⟩ (by decide) dX7_comingTo_37 (fun h37 => ?_) (fun h37 => ?_)
          · skip
            refine v_iconst (pc := 44) C dX7_comingTo_44 ?_
            refine v_iadd (pc := 45) C dX7_comingTo_45 ?_
            refine v_istore_n (pc := 46) C [(3, .int (iI (q + 0))), (0, .ref (adr L 14 0 0)), (1, .int (iI p)), (2, .int (iI t)), (4, .int (iI i))] rfl (by decide) rfl dX7_comingTo_46 ?_
            refine v_iinc (pc := 47) C 4 [(4, .int (iI (i + 1))), (3, .int (iI (q + 0))), (0, .ref (adr L 14 0 0)), (1, .int (iI p)), (2, .int (iI t))] rfl (by decide) rfl dX7_comingTo_47 ?_
            refine v_goto (pc := 50) C 5 (by decide) dX7_comingTo_50 ?_
            refine v_lsub [2, 3, 4, 1, 0] rfl ?_
            exact ih5 (i + 1) (q + 0) (by omega) (by rw [cn_s hi.1]; simp only [mDu, decide_eq_true_eq]; split <;> omega) (by omega)
          · skip
            refine v_iconst (pc := 40) C dX7_comingTo_40 ?_
            refine v_goto (pc := 41) C 45 (by decide) dX7_comingTo_41 ?_
            refine v_iadd (pc := 45) C dX7_comingTo_45 ?_
            refine v_istore_n (pc := 46) C [(3, .int (iI (q + 1))), (0, .ref (adr L 14 0 0)), (1, .int (iI p)), (2, .int (iI t)), (4, .int (iI i))] rfl (by decide) rfl dX7_comingTo_46 ?_
            refine v_iinc (pc := 47) C 4 [(4, .int (iI (i + 1))), (3, .int (iI (q + 1))), (0, .ref (adr L 14 0 0)), (1, .int (iI p)), (2, .int (iI t))] rfl (by decide) rfl dX7_comingTo_47 ?_
            refine v_goto (pc := 50) C 5 (by decide) dX7_comingTo_50 ?_
            refine v_lsub [2, 3, 4, 1, 0] rfl ?_
            exact ih5 (i + 1) (q + 1) (by omega) (by rw [cn_s hi.1]; simp only [mDu, decide_eq_true_eq]; split <;> omega) (by omega)
  refine v_lsub [2, 3, 4, 1, 0] rfl ?_
  exact lb5 _ 0 0 (by omega) (by rfl) (Nat.lt_succ_self _)
set_option maxHeartbeats 4000000 in
set_option maxRecDepth 100000 in
theorem ct_X7_addEcho (l : Launch) (L : Lay) (g : St) (p w y : Int) (hm : wm (g 15 0 0) 1) (hp : 0 ≤ p ∧ p < 4) (hw : 0 ≤ w ∧ w ≤ 9) (hy : 0 ≤ y ∧ y ≤ 1) (hn : g 15 0 0 9 < 24) : Met l yX7_addEcho (.code yX7_addEcho cX7_addEcho 6 none :: wsL_law) { frames := 1, cells := 0, slots := 0, locals := 24 } (va_Pc [.ref (adr L 14 0 0), .int (iI p), .int (iI w), .int (iI y)] (HS L g)) (va_Qv (fun (u9 : St) => u9 = (adM g p w y)) (fun u t => HS L u t) (Af L)) 0 0 (Af L) := by
  refine ct_mk (by decide +kernel) (Nat.le_of_ble_eq_true rfl) ?_
  intro pp ee ss mm bel mth cx C hr hlk
  show V pp l ee { frames := 1, cells := 0, slots := 0, locals := 24 } ss mm ([.ref (adr L 14 0 0), .int (iI p), .int (iI w), .int (iI y)]).toArray bel mth cx 6 L (HH L g) 0 0 _ 0 [(0, .ref (adr L 14 0 0)), (1, .int (iI p)), (2, .int (iI w)), (3, .int (iI y))] []
  obtain ⟨mS0, mS1, mS2, mB0, mB1, mB2, mCl, mN, mPl, mEc⟩ := id hm
  have hpl := mPl p hp.1 hp.2
  clear mEc mPl
  refine v_aload_n (pc := 0) C 0 rfl rfl dX7_addEcho_0 ?_
  refine v_iload_n (pc := 1) C 1 rfl rfl dX7_addEcho_1 ?_
  refine v_iconst (pc := 2) C dX7_addEcho_2 ?_
  refine v_calliV (pc := 3) C cw_RX7_33 rcv_14 (ct_X7_ofPlayer l L g p 0 (by first | assumption | omega | (simp [bl, up] <;> omega)) (by first | assumption | omega | (simp [bl, up] <;> omega))) ⟨Nat.le_of_ble_eq_true rfl, Nat.le_of_ble_eq_true rfl⟩ rfl (Nat.le_of_ble_eq_true rfl) ⟨Nat.le_of_ble_eq_true rfl, Nat.le_of_ble_eq_true rfl⟩ rfl dX7_addEcho_3 (fun r9 u9 hP_1 => ?_)
  obtain ⟨hP_1, hP_1b⟩ := hP_1
  rw [hP_1, hP_1b]
  clear hP_1 hP_1b r9 u9
  refine v_istore (pc := 6) C [(4, .int (iI (g 15 0 0 (10 + 6 * p + 0)))), (0, .ref (adr L 14 0 0)), (1, .int (iI p)), (2, .int (iI w)), (3, .int (iI y))] (by decide) rfl dX7_addEcho_6 ?_
  refine v_bipush (pc := 8) C rfl dX7_addEcho_8 ?_
  refine v_iconst (pc := 10) C dX7_addEcho_10 ?_
  refine v_aload_n (pc := 11) C 1 rfl rfl dX7_addEcho_11 ?_
  refine gt_14_1 (pc := 12) C u_4_4 dX7_addEcho_12 ?_
  refine v_bipush (pc := 15) C rfl dX7_addEcho_15 ?_
  refine al_15 (pc := 17) C ⟨by (first | assumption | omega | (simp [bl, up] <;> omega)), by (first | assumption | omega | (simp [bl, up] <;> omega))⟩ dX7_addEcho_17 (g 15 0 0 9) (rfl) ?_
  refine v_imul (pc := 18) C dX7_addEcho_18 ?_
  refine v_iadd (pc := 19) C dX7_addEcho_19 ?_
  refine v_istore (pc := 20) C [(5, .int (iI (34 + (5 * (g 15 0 0 9))))), (4, .int (iI (g 15 0 0 (10 + 6 * p + 0)))), (0, .ref (adr L 14 0 0)), (1, .int (iI p)), (2, .int (iI w)), (3, .int (iI y))] (by decide) rfl dX7_addEcho_20 ?_
  refine v_aload_n (pc := 22) C 2 rfl rfl dX7_addEcho_22 ?_
  refine gt_14_1 (pc := 23) C u_4_4 dX7_addEcho_23 ?_
  refine v_iload (pc := 26) C 0 rfl dX7_addEcho_26 ?_
  refine v_iconst (pc := 28) C dX7_addEcho_28 ?_
  refine v_iadd (pc := 29) C dX7_addEcho_29 ?_
  refine v_iload_n (pc := 30) C 3 rfl rfl dX7_addEcho_30 ?_
  refine as_15 (pc := 31) C ⟨by (first | assumption | omega | (simp [bl, up] <;> omega)), by (first | assumption | omega | (simp [bl, up] <;> omega))⟩ dX7_addEcho_31 ?_
  refine v_aload_n (pc := 32) C 2 rfl rfl dX7_addEcho_32 ?_
  refine gt_14_1 (pc := 33) C u_4_4 dX7_addEcho_33 ?_
  refine v_iload (pc := 36) C 0 rfl dX7_addEcho_36 ?_
  refine v_iconst (pc := 38) C dX7_addEcho_38 ?_
  refine v_iadd (pc := 39) C dX7_addEcho_39 ?_
  refine v_iload (pc := 40) C 1 rfl dX7_addEcho_40 ?_
  refine as_15 (pc := 42) C ⟨by (first | assumption | omega | (simp [bl, up] <;> omega)), by (first | assumption | omega | (simp [bl, up] <;> omega))⟩ dX7_addEcho_42 ?_
  refine v_aload_n (pc := 43) C 2 rfl rfl dX7_addEcho_43 ?_
  refine gt_14_1 (pc := 44) C u_4_4 dX7_addEcho_44 ?_
  refine v_iload (pc := 47) C 0 rfl dX7_addEcho_47 ?_
  refine v_iconst (pc := 49) C dX7_addEcho_49 ?_
  refine v_iadd (pc := 50) C dX7_addEcho_50 ?_
  refine v_iload_n (pc := 51) C 4 rfl rfl dX7_addEcho_51 ?_
  refine as_15 (pc := 52) C ⟨by (first | assumption | omega | (simp [bl, up] <;> omega)), by (first | assumption | omega | (simp [bl, up] <;> omega))⟩ dX7_addEcho_52 ?_
  refine v_aload_n (pc := 53) C 2 rfl rfl dX7_addEcho_53 ?_
  refine gt_14_1 (pc := 54) C u_4_4 dX7_addEcho_54 ?_
  refine v_iload (pc := 57) C 0 rfl dX7_addEcho_57 ?_
  refine v_iconst (pc := 59) C dX7_addEcho_59 ?_
  refine v_iadd (pc := 60) C dX7_addEcho_60 ?_
  refine v_aload_n (pc := 61) C 2 rfl rfl dX7_addEcho_61 ?_
  refine gt_14_1 (pc := 62) C u_4_4 dX7_addEcho_62 ?_
  refine v_iconst (pc := 65) C dX7_addEcho_65 ?_
  refine al_15 (pc := 66) C ⟨by (first | assumption | omega | (simp [bl, up] <;> omega)), by (first | assumption | omega | (simp [bl, up] <;> omega))⟩ dX7_addEcho_66 (g 15 0 0 3) (by simp only [up]; grind) ?_
  refine v_aload_n (pc := 67) C 2 rfl rfl dX7_addEcho_67 ?_
  refine v_iload (pc := 68) C 1 rfl dX7_addEcho_68 ?_
  refine v_iload_n (pc := 70) C 5 rfl rfl dX7_addEcho_70 ?_
  refine v_calliV (pc := 71) C cw_RX7_57 rcv_14 (ct_X7_delay l L (up (up (up g 15 0 0 ((34 + (5 * (g 15 0 0 9))) + 0) p) 15 0 0 ((34 + (5 * (g 15 0 0 9))) + 1) (g 15 0 0 (10 + 6 * p + 0))) 15 0 0 ((34 + (5 * (g 15 0 0 9))) + 2) w) (g 15 0 0 (10 + 6 * p + 0)) y (by simp only [up]; grind) (by simp only [up]; grind) (by simp only [up]; grind) (by simp only [up]; grind) (by first | assumption | omega | (simp [bl, up] <;> omega))) ⟨Nat.le_of_ble_eq_true rfl, Nat.le_of_ble_eq_true rfl⟩ rfl (Nat.le_of_ble_eq_true rfl) ⟨Nat.le_of_ble_eq_true rfl, Nat.le_of_ble_eq_true rfl⟩ rfl dX7_addEcho_71 (fun r9 u9 hP_2 => ?_)
  obtain ⟨hP_2, hP_2b⟩ := hP_2
  rw [hP_2, hP_2b]
  clear hP_2 hP_2b r9 u9
  refine v_topi (b := mDl g (g 15 0 0 (10 + 6 * p + 0)) y) C (by unfold mDl; simp only [up]; grind) ?_
  refine v_iadd (pc := 74) C dX7_addEcho_74 ?_
  refine as_15 (pc := 75) C ⟨by (first | assumption | omega | (simp [bl, up] <;> omega)), by (first | assumption | omega | (simp [bl, up] <;> omega))⟩ dX7_addEcho_75 ?_
  refine v_aload_n (pc := 76) C 2 rfl rfl dX7_addEcho_76 ?_
  refine gt_14_1 (pc := 77) C u_4_4 dX7_addEcho_77 ?_
  refine v_iload (pc := 80) C 0 rfl dX7_addEcho_80 ?_
  refine v_iconst (pc := 82) C dX7_addEcho_82 ?_
  refine v_iadd (pc := 83) C dX7_addEcho_83 ?_
  refine v_iload_n (pc := 84) C 5 rfl rfl dX7_addEcho_84 ?_
  refine as_15 (pc := 85) C ⟨by (first | assumption | omega | (simp [bl, up] <;> omega)), by (first | assumption | omega | (simp [bl, up] <;> omega))⟩ dX7_addEcho_85 ?_
  refine v_aload_n (pc := 86) C 2 rfl rfl dX7_addEcho_86 ?_
  refine gt_14_1 (pc := 87) C u_4_4 dX7_addEcho_87 ?_
  refine v_bipush (pc := 90) C rfl dX7_addEcho_90 ?_
  refine v_dup2 (pc := 92) C rfl rfl dX7_addEcho_92 ?_
  refine al_15 (pc := 93) C ⟨by (first | assumption | omega | (simp [bl, up] <;> omega)), by (first | assumption | omega | (simp [bl, up] <;> omega))⟩ dX7_addEcho_93 (g 15 0 0 9) (by simp only [up]; grind) ?_
  refine v_iconst (pc := 94) C dX7_addEcho_94 ?_
  refine v_iadd (pc := 95) C dX7_addEcho_95 ?_
  refine as_15 (pc := 96) C ⟨by (first | assumption | omega | (simp [bl, up] <;> omega)), by (first | assumption | omega | (simp [bl, up] <;> omega))⟩ dX7_addEcho_96 ?_
  exact v_vret (pc := 97) C hr hlk (by rfl) dX7_addEcho_97
