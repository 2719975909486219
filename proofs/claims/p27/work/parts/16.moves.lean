/-! pure words of what moves in a canyon -/
abbrev mvO (g : St) (k p b : Int) : Prop := g 6 k p 0 + b < 0 ∨ g 2 k 0 0 < g 6 k p 0 + b
def mvR (g : St) (k p b : Int) : Int := if mvO g k p b then -1 else g 6 k p 0 + b
def mvG (g : St) (k p b : Int) : St := if mvO g k p b then up g 1 k 0 1 (g 1 k 0 1 + 1) else up g 6 k p 0 (g 6 k p 0 + b)
/-- an echo that comes back: the state then, whether the ball is caught -/
def icG (g : St) (k r : Int) : St := if eCl g k r then up g 6 k (eF g k r 0) 4 (g 6 k (eF g k r 0) 4 + 1) else if g 6 k (eF g k r 0) 0 ≠ eF g k r 1 then up g 6 k (eF g k r 0) 5 (g 6 k (eF g k r 0) 5 + 1) else if g 3 k 0 0 ≠ eF g k r 1 then up g 6 k (eF g k r 0) 3 (g 6 k (eF g k r 0) 3 + 1) else up (up (up (up g 6 k (eF g k r 0) 3 (g 6 k (eF g k r 0) 3 + 1)) 6 k (eF g k r 0) 1 (g 6 k (eF g k r 0) 1 + 1)) 3 k 0 1 (fwS (g 3 k 0 1) (eF g k r 2))) 3 k 0 2 (fwR (g 3 k 0 2) (eF g k r 2))
def icR (g : St) (k r : Int) : Int := if eCl g k r then 0 else if g 6 k (eF g k r 0) 0 ≠ eF g k r 1 then 0 else if g 3 k 0 0 ≠ eF g k r 1 then 0 else 1
/-- the b first echoes are dropped -/
def drI (g u : St) (k b i : Int) : Prop := (∀ (f : Nat) (k' j x : Int), ¬ (f = 5 ∧ k' = k) → u f k' j x = g f k' j x) ∧ (∀ r, 0 ≤ r → r < i - b → u 5 k 0 r = g 5 k 0 (r + b)) ∧ (∀ r, i ≤ r → u 5 k 0 r = g 5 k 0 r) ∧ (∀ r, 0 ≤ r → r < 24 → 0 ≤ u 5 k 0 r ∧ u 5 k 0 r < 24) ∧ (∀ r q, 0 ≤ r → r < 24 → 0 ≤ q → q < 24 → u 5 k 0 r = u 5 k 0 q → r = q)
def drp (g u : St) (k b : Int) : Prop := ∃ v, drI g v k b (g 1 k 0 2) ∧ u = up v 1 k 0 2 (g 1 k 0 2 - b)
theorem drI_0 {g : St} {k d b : Int} (hw : wf g k d) (hb : 0 ≤ b) : drI g g k b b := by
  obtain ⟨hS0, hS1, hS2, hB0, hB1, hB2, hCl, hN, hPl, hPm, hPj, hEc, hSo⟩ := hw
  exact ⟨fun _ _ _ _ _ => rfl, fun r h1 h2 => by omega, fun _ _ => rfl, hPm, hPj⟩
theorem drI_s {g u : St} {k b i : Int} (hb : 0 ≤ b) (hi : b ≤ i) (h24 : i < 24) (h : drI g u k b i) : drI g (up (up u 5 k 0 (i - b) (u 5 k 0 i)) 5 k 0 i (u 5 k 0 (i - b))) k b (i + 1) := by
  obtain ⟨h1, h2, h3, h4, h5⟩ := h
  refine ⟨fun f k' j x hf => ?_, fun r hr0 hr1 => ?_, fun r hr => ?_, fun r hr0 hr1 => ?_, fun r q hr0 hr1 hq0 hq1 he => ?_⟩
  · rw [← h1 f k' j x hf]; simp only [up]; grind
  · by_cases hr : r = i - b
    · subst hr; simp only [up]; rw [show i - b + b = i by omega]; by_cases hb0 : b = 0
      · subst hb0; simp [h3]
      · rw [if_neg (by omega), if_pos (by simp)]; exact h3 i (Int.le_refl _)
    · rw [← h2 r hr0 (by omega)]; simp only [up]; rw [if_neg (by omega), if_neg (by omega)]
  · rw [← h3 r (by omega)]; simp only [up]; rw [if_neg (by omega), if_neg (by omega)]
  · have a1 := h4 r hr0 hr1
    have a2 := h4 i (by omega) h24
    have a3 := h4 (i - b) (by omega) (by omega)
    simp only [up]; split
    · exact a3
    · split
      · exact a2
      · exact a1
  · have e1 := h5 r q hr0 hr1 hq0 hq1
    have e2 := h5 r i hr0 hr1 (by omega) h24
    have e3 := h5 r (i - b) hr0 hr1 (by omega) (by omega)
    have e4 := h5 q i hq0 hq1 (by omega) h24
    have e5 := h5 q (i - b) hq0 hq1 (by omega) (by omega)
    have e6 := h5 i (i - b) (by omega) h24 (by omega) (by omega)
    have e7 := h5 i q (by omega) h24 hq0 hq1
    have e8 := h5 (i - b) q (by omega) (by omega) hq0 hq1
    simp only [up] at he
    grind
/-- a new echo, at the place a of the row -/
def ecG (g : St) (k p w wl : Int) : St := up (up (up (up (up g 7 k (g 5 k 0 (g 1 k 0 2)) 0 p) 7 k (g 5 k 0 (g 1 k 0 2)) 1 (g 6 k p 0)) 7 k (g 5 k 0 (g 1 k 0 2)) 2 w) 7 k (g 5 k 0 (g 1 k 0 2)) 4 wl) 7 k (g 5 k 0 (g 1 k 0 2)) 3 (g 1 k 0 0 + eT g k (g 6 k p 0) wl)
def shG (g : St) (k n a : Int) : St := fun f k' j i => if f = 5 ∧ k' = k ∧ j = 0 ∧ a < i ∧ i ≤ n then g 5 k 0 (i - 1) else g f k' j i
def adG (g : St) (k p w wl a : Int) : St := up (up (shG (ecG g k p w wl) k (g 1 k 0 2) a) 5 k 0 a (g 5 k 0 (g 1 k 0 2))) 1 k 0 2 (g 1 k 0 2 + 1)
/-- where: behind those that are due no later -/
def adC (g : St) (k p wl a : Int) : Prop := (0 ≤ a ∧ a ≤ g 1 k 0 2) ∧ (0 < a → eF g k (a - 1) 3 ≤ g 1 k 0 0 + eT g k (g 6 k p 0) wl) ∧ (∀ r, a ≤ r → r < g 1 k 0 2 → g 1 k 0 0 + eT g k (g 6 k p 0) wl < eF g k r 3)
theorem shG_n (g : St) (k n : Int) : shG g k n n = g := by
  funext f k' j i; simp only [shG]; rw [if_neg (by omega)]
theorem shG_s (g : St) (k n a : Int) (ha : 1 ≤ a ∧ a ≤ n) : up (shG g k n a) 5 k 0 a (shG g k n a 5 k 0 (a - 1)) = shG g k n (a - 1) := by
  funext f k' j i
  simp only [shG, up]; grind

theorem cw_RX1_133 : CW RX1 133 RX0 yX0_followWord cX0_followWord 2 none 1 := ⟨u_15_12, u_15_13, u_15_14, u_2_3, u_15_15, by decide +kernel⟩
set_option maxHeartbeats 4000000 in
set_option maxRecDepth 100000 in
theorem ct_X1_movePlayer (l : Launch) (L : Lay) (g : St) (k d p b : Int) (hk : 0 ≤ k ∧ k < 9) (hw : wf g k d) (hd : 0 ≤ d ∧ d ≤ 1) (hp : 0 ≤ p ∧ p < 4) (hb : -1000 ≤ b ∧ b ≤ 1000) : Met l yX1_movePlayer (.code yX1_movePlayer cX1_movePlayer 4 (some .int) :: wsL_law) { frames := 1, cells := 0, slots := 0, locals := 20 } (va_Pc [.ref (adr L 1 k 0), .int (iI p), .int (iI b)] (HS L g)) (va_Qi (fun (r9 : Int32) (u9 : St) => r9 = iI (mvR g k p b) ∧ u9 = (mvG g k p b)) (fun u t => HS L u t) (Af L)) 0 0 (Af L) := by
  refine ct_mk (by decide +kernel) (Nat.le_of_ble_eq_true rfl) ?_
  intro pp ee ss mm bel mth cx C hr hlk
  show V pp l ee { frames := 1, cells := 0, slots := 0, locals := 20 } ss mm ([.ref (adr L 1 k 0), .int (iI p), .int (iI b)]).toArray bel mth cx 4 L (HH L g) 0 0 _ 0 [(0, .ref (adr L 1 k 0)), (1, .int (iI p)), (2, .int (iI b))] []
  obtain ⟨hS0, hS1, hS2, hB0, hB1, hB2, hCl, hN, hPl, hPm, hPj, hEc, hSo⟩ := id hw
  have hpl := hPl p hp.1 hp.2
  refine v_aload_n (pc := 0) C 0 rfl rfl dX1_movePlayer_0 ?_
  refine gt_1_5 (pc := 1) C ⟨by (first | assumption | omega | (simp [bl, up] <;> omega)), by (first | assumption | omega | (simp [bl, up] <;> omega))⟩ u_2_13 dX1_movePlayer_1 ?_
  refine v_iload_n (pc := 4) C 1 rfl rfl dX1_movePlayer_4 ?_
  refine al_4 (pc := 5) C ⟨by (first | assumption | omega | (simp [bl, up] <;> omega)), by (first | assumption | omega | (simp [bl, up] <;> omega))⟩ ⟨by (first | assumption | omega | (simp [bl, up] <;> omega)), by (first | assumption | omega | (simp [bl, up] <;> omega))⟩ dX1_movePlayer_5 ?_
  refine gt_6_0 (pc := 6) C ⟨⟨by (first | assumption | omega | (simp [bl, up] <;> omega)), by (first | assumption | omega | (simp [bl, up] <;> omega))⟩, ⟨by (first | assumption | omega | (simp [bl, up] <;> omega)), by (first | assumption | omega | (simp [bl, up] <;> omega))⟩⟩ u_4_23 dX1_movePlayer_6 (g 6 k p 0) (rfl) ?_
  refine v_iload_n (pc := 9) C 2 rfl rfl dX1_movePlayer_9 ?_
  refine v_iadd (pc := 10) C dX1_movePlayer_10 ?_
  refine v_istore_n (pc := 11) C [(3, .int (iI ((g 6 k p 0) + b))), (0, .ref (adr L 1 k 0)), (1, .int (iI p)), (2, .int (iI b))] rfl (by decide) rfl dX1_movePlayer_11 ?_
  refine v_iload_n (pc := 12) C 0 rfl rfl dX1_movePlayer_12 ?_
  refine v_if_lt (pc := 13) C 24 ⟨by (first | assumption | omega | (simp [bl, up] <;> omega)), by (first | assumption | omega | (simp [bl, up] <;> omega))⟩ (by decide) dX1_movePlayer_13 (fun h13 => ?_) (fun h13 => ?_)
  · skip
    refine v_aload_n (pc := 24) C 1 rfl rfl dX1_movePlayer_24 ?_
    refine v_dup (pc := 25) C rfl dX1_movePlayer_25 ?_
    refine gt_1_1 (pc := 26) C ⟨by (first | assumption | omega | (simp [bl, up] <;> omega)), by (first | assumption | omega | (simp [bl, up] <;> omega))⟩ u_7_15 dX1_movePlayer_26 (g 1 k 0 1) (rfl) ?_
    refine v_iconst (pc := 29) C dX1_movePlayer_29 ?_
    refine v_iadd (pc := 30) C dX1_movePlayer_30 ?_
    refine pt_1_1 (pc := 31) C ⟨by (first | assumption | omega | (simp [bl, up] <;> omega)), by (first | assumption | omega | (simp [bl, up] <;> omega))⟩ u_7_15 dX1_movePlayer_31 ?_
    refine v_iconst (pc := 34) C dX1_movePlayer_34 ?_
    exact v_iret (pc := 35) C hr hlk (⟨congrArg iI (by unfold mvR mvO; first | rw [if_pos (by omega)] | rw [if_neg (by omega)]), by unfold mvG mvO; first | rw [if_pos (by omega)] | rw [if_neg (by omega)]⟩) dX1_movePlayer_35
  · skip
    refine v_iload_n (pc := 16) C 0 rfl rfl dX1_movePlayer_16 ?_
    refine v_aload_n (pc := 17) C 1 rfl rfl dX1_movePlayer_17 ?_
    refine v_calliV (pc := 18) C cw_RX1_73 (rcv_1 ⟨by (first | assumption | omega | (simp [bl, up] <;> omega)), by (first | assumption | omega | (simp [bl, up] <;> omega))⟩) (ct_X1_lastPlace l L g k (by first | assumption | omega | (simp [bl, up] <;> omega))) ⟨Nat.le_of_ble_eq_true rfl, Nat.le_of_ble_eq_true rfl⟩ rfl (Nat.le_of_ble_eq_true rfl) ⟨Nat.le_of_ble_eq_true rfl, Nat.le_of_ble_eq_true rfl⟩ rfl dX1_movePlayer_18 (fun r9 u9 hP_1 => ?_)
    obtain ⟨hP_1, hP_1b⟩ := hP_1
    rw [hP_1, hP_1b]
    clear hP_1 hP_1b r9 u9
    refine v_icmp_le (pc := 21) C 36 ⟨by (first | assumption | omega | (simp [bl, up] <;> omega)), by (first | assumption | omega | (simp [bl, up] <;> omega))⟩ ⟨by (first | assumption | omega | (simp [bl, up] <;> omega)), by (first | assumption | omega | (simp [bl, up] <;> omega))⟩ (by decide) dX1_movePlayer_21 (fun h21 => ?_) (fun h21 => ?_)
    · skip
      refine v_aload_n (pc := 36) C 1 rfl rfl dX1_movePlayer_36 ?_
      refine gt_1_5 (pc := 37) C ⟨by (first | assumption | omega | (simp [bl, up] <;> omega)), by (first | assumption | omega | (simp [bl, up] <;> omega))⟩ u_2_13 dX1_movePlayer_37 ?_
      refine v_iload_n (pc := 40) C 2 rfl rfl dX1_movePlayer_40 ?_
      refine al_4 (pc := 41) C ⟨by (first | assumption | omega | (simp [bl, up] <;> omega)), by (first | assumption | omega | (simp [bl, up] <;> omega))⟩ ⟨by (first | assumption | omega | (simp [bl, up] <;> omega)), by (first | assumption | omega | (simp [bl, up] <;> omega))⟩ dX1_movePlayer_41 ?_
      refine v_iload_n (pc := 42) C 0 rfl rfl dX1_movePlayer_42 ?_
      refine pt_6_0 (pc := 43) C ⟨⟨by (first | assumption | omega | (simp [bl, up] <;> omega)), by (first | assumption | omega | (simp [bl, up] <;> omega))⟩, ⟨by (first | assumption | omega | (simp [bl, up] <;> omega)), by (first | assumption | omega | (simp [bl, up] <;> omega))⟩⟩ u_4_23 dX1_movePlayer_43 ?_
      refine v_iload_n (pc := 46) C 0 rfl rfl dX1_movePlayer_46 ?_
      exact v_iret (pc := 47) C hr hlk (⟨congrArg iI (by unfold mvR mvO; first | rw [if_pos (by omega)] | rw [if_neg (by omega)]), by unfold mvG mvO; first | rw [if_pos (by omega)] | rw [if_neg (by omega)]⟩) dX1_movePlayer_47
    · skip
      refine v_aload_n (pc := 24) C 1 rfl rfl dX1_movePlayer_24 ?_
      refine v_dup (pc := 25) C rfl dX1_movePlayer_25 ?_
      refine gt_1_1 (pc := 26) C ⟨by (first | assumption | omega | (simp [bl, up] <;> omega)), by (first | assumption | omega | (simp [bl, up] <;> omega))⟩ u_7_15 dX1_movePlayer_26 (g 1 k 0 1) (rfl) ?_
      refine v_iconst (pc := 29) C dX1_movePlayer_29 ?_
      refine v_iadd (pc := 30) C dX1_movePlayer_30 ?_
      refine pt_1_1 (pc := 31) C ⟨by (first | assumption | omega | (simp [bl, up] <;> omega)), by (first | assumption | omega | (simp [bl, up] <;> omega))⟩ u_7_15 dX1_movePlayer_31 ?_
      refine v_iconst (pc := 34) C dX1_movePlayer_34 ?_
      exact v_iret (pc := 35) C hr hlk (⟨congrArg iI (by unfold mvR mvO; first | rw [if_pos (by omega)] | rw [if_neg (by omega)]), by unfold mvG mvO; first | rw [if_pos (by omega)] | rw [if_neg (by omega)]⟩) dX1_movePlayer_35
set_option maxHeartbeats 4000000 in
set_option maxRecDepth 100000 in
theorem ct_X1_isCatch (l : Launch) (L : Lay) (g : St) (k d r : Int) (hk : 0 ≤ k ∧ k < 9) (hw : wf g k d) (hd : 0 ≤ d ∧ d ≤ 1) (hr0 : 0 ≤ r ∧ r < g 1 k 0 2) : Met l yX1_isCatch (.code yX1_isCatch cX1_isCatch 4 (some .boolean) :: wsL_law) { frames := 2, cells := 0, slots := 0, locals := 45 } (va_Pc [.ref (adr L 1 k 0), .int (iI r)] (HS L g)) (va_Qi (fun (r9 : Int32) (u9 : St) => r9 = iI (icR g k r) ∧ u9 = (icG g k r)) (fun u t => HS L u t) (Af L)) 0 0 (Af L) := by
  refine ct_mk (by decide +kernel) (Nat.le_of_ble_eq_true rfl) ?_
  intro pp ee ss mm bel mth cx C hr hlk
  show V pp l ee { frames := 2, cells := 0, slots := 0, locals := 45 } ss mm ([.ref (adr L 1 k 0), .int (iI r)]).toArray bel mth cx 4 L (HH L g) 0 0 _ 0 [(0, .ref (adr L 1 k 0)), (1, .int (iI r))] []
  obtain ⟨hS0, hS1, hS2, hB0, hB1, hB2, hCl, hN, hPl, hPm, hPj, hEc, hSo⟩ := id hw
  refine v_aload_n (pc := 0) C 0 rfl rfl dX1_isCatch_0 ?_
  refine gt_1_6 (pc := 1) C ⟨by (first | assumption | omega | (simp [bl, up] <;> omega)), by (first | assumption | omega | (simp [bl, up] <;> omega))⟩ u_2_15 dX1_isCatch_1 ?_
  refine v_iload_n (pc := 4) C 1 rfl rfl dX1_isCatch_4 ?_
  refine al_5 (pc := 5) C ⟨by (first | assumption | omega | (simp [bl, up] <;> omega)), by (first | assumption | omega | (simp [bl, up] <;> omega))⟩ ⟨by (first | assumption | omega | (simp [bl, up] <;> omega)), by (first | assumption | omega | (simp [bl, up] <;> omega))⟩ dX1_isCatch_5 (g 5 k 0 r) (rfl) ?_
  have hp5 := hPm r (by first | assumption | omega | (simp [bl, up] <;> omega)) (by first | assumption | omega | (simp [bl, up] <;> omega))
  have he5 := hEc r (by first | assumption | omega | (simp [bl, up] <;> omega)) (by first | assumption | omega | (simp [bl, up] <;> omega))
  unfold okE at he5
  have hpl := hPl (g 7 k (g 5 k 0 r) 0) (by omega) (by omega)
  refine v_astore_n (pc := 6) C [(2, .ref (adr L 7 k (g 5 k 0 r))), (0, .ref (adr L 1 k 0)), (1, .int (iI r))] rfl (by decide) rfl dX1_isCatch_6 ?_
  refine v_aload_n (pc := 7) C 1 rfl rfl dX1_isCatch_7 ?_
  refine gt_1_5 (pc := 8) C ⟨by (first | assumption | omega | (simp [bl, up] <;> omega)), by (first | assumption | omega | (simp [bl, up] <;> omega))⟩ u_2_13 dX1_isCatch_8 ?_
  refine v_aload_n (pc := 11) C 0 rfl rfl dX1_isCatch_11 ?_
  refine gt_7_0 (pc := 12) C ⟨⟨by (first | assumption | omega | (simp [bl, up] <;> omega)), by (first | assumption | omega | (simp [bl, up] <;> omega))⟩, ⟨by (first | assumption | omega | (simp [bl, up] <;> omega)), by (first | assumption | omega | (simp [bl, up] <;> omega))⟩⟩ u_8_13 dX1_isCatch_12 (g 7 k (g 5 k 0 r) 0) (rfl) ?_
  refine al_4 (pc := 15) C ⟨by (first | assumption | omega | (simp [bl, up] <;> omega)), by (first | assumption | omega | (simp [bl, up] <;> omega))⟩ ⟨by (first | assumption | omega | (simp [bl, up] <;> omega)), by (first | assumption | omega | (simp [bl, up] <;> omega))⟩ dX1_isCatch_15 ?_
  refine v_astore_n (pc := 16) C [(3, .ref (adr L 6 k (g 7 k (g 5 k 0 r) 0))), (2, .ref (adr L 7 k (g 5 k 0 r))), (0, .ref (adr L 1 k 0)), (1, .int (iI r))] rfl (by decide) rfl dX1_isCatch_16 ?_
  refine v_aload_n (pc := 17) C 2 rfl rfl dX1_isCatch_17 ?_
  refine v_iload_n (pc := 18) C 3 rfl rfl dX1_isCatch_18 ?_
  refine v_calliV (pc := 19) C cw_RX1_118 (rcv_1 ⟨by (first | assumption | omega | (simp [bl, up] <;> omega)), by (first | assumption | omega | (simp [bl, up] <;> omega))⟩) (ct_X1_echoClashes l L g k d r (by first | assumption | omega | (simp [bl, up] <;> omega)) (by first | assumption | omega | (simp [bl, up] <;> omega)) (by first | assumption | omega | (simp [bl, up] <;> omega)) (by first | assumption | omega | (simp [bl, up] <;> omega))) ⟨Nat.le_of_ble_eq_true rfl, Nat.le_of_ble_eq_true rfl⟩ rfl (Nat.le_of_ble_eq_true rfl) ⟨Nat.le_of_ble_eq_true rfl, Nat.le_of_ble_eq_true rfl⟩ rfl dX1_isCatch_19 (fun r9 u9 hP_1 => ?_)
  obtain ⟨hP_1, hP_1b⟩ := hP_1
  rw [hP_1, hP_1b]
  clear hP_1 hP_1b r9 u9
  refine v_if_eq (pc := 22) C 37 ⟨by split <;> decide, by split <;> decide⟩ (by decide) dX1_isCatch_22 (fun h22 => ?_) (fun h22 => ?_)
  · skip
    refine v_aload_n (pc := 37) C 0 rfl rfl dX1_isCatch_37 ?_
    refine gt_6_0 (pc := 38) C ⟨⟨by (first | assumption | omega | (simp [bl, up] <;> omega)), by (first | assumption | omega | (simp [bl, up] <;> omega))⟩, ⟨by (first | assumption | omega | (simp [bl, up] <;> omega)), by (first | assumption | omega | (simp [bl, up] <;> omega))⟩⟩ u_4_23 dX1_isCatch_38 (g 6 k (g 7 k (g 5 k 0 r) 0) 0) (rfl) ?_
    refine v_aload_n (pc := 41) C 1 rfl rfl dX1_isCatch_41 ?_
    refine gt_7_1 (pc := 42) C ⟨⟨by (first | assumption | omega | (simp [bl, up] <;> omega)), by (first | assumption | omega | (simp [bl, up] <;> omega))⟩, ⟨by (first | assumption | omega | (simp [bl, up] <;> omega)), by (first | assumption | omega | (simp [bl, up] <;> omega))⟩⟩ u_9_9 dX1_isCatch_42 (g 7 k (g 5 k 0 r) 1) (rfl) ?_
    refine v_icmp_eq (pc := 45) C 60 ⟨by (first | assumption | omega | (simp [bl, up] <;> omega)), by (first | assumption | omega | (simp [bl, up] <;> omega))⟩ ⟨by (first | assumption | omega | (simp [bl, up] <;> omega)), by (first | assumption | omega | (simp [bl, up] <;> omega))⟩ (by decide) dX1_isCatch_45 (fun h45 => ?_) (fun h45 => ?_)
    · skip
      refine v_aload_n (pc := 60) C 0 rfl rfl dX1_isCatch_60 ?_
      refine v_dup (pc := 61) C rfl dX1_isCatch_61 ?_
      refine gt_6_3 (pc := 62) C ⟨⟨by (first | assumption | omega | (simp [bl, up] <;> omega)), by (first | assumption | omega | (simp [bl, up] <;> omega))⟩, ⟨by (first | assumption | omega | (simp [bl, up] <;> omega)), by (first | assumption | omega | (simp [bl, up] <;> omega))⟩⟩ u_8_6 dX1_isCatch_62 (g 6 k (g 7 k (g 5 k 0 r) 0) 3) (rfl) ?_
      refine v_iconst (pc := 65) C dX1_isCatch_65 ?_
      refine v_iadd (pc := 66) C dX1_isCatch_66 ?_
      refine pt_6_3 (pc := 67) C ⟨⟨by (first | assumption | omega | (simp [bl, up] <;> omega)), by (first | assumption | omega | (simp [bl, up] <;> omega))⟩, ⟨by (first | assumption | omega | (simp [bl, up] <;> omega)), by (first | assumption | omega | (simp [bl, up] <;> omega))⟩⟩ u_8_6 dX1_isCatch_67 ?_
      refine v_aload_n (pc := 70) C 2 rfl rfl dX1_isCatch_70 ?_
      refine gt_1_4 (pc := 71) C ⟨by (first | assumption | omega | (simp [bl, up] <;> omega)), by (first | assumption | omega | (simp [bl, up] <;> omega))⟩ u_2_11 dX1_isCatch_71 ?_
      refine gt_3_0 (pc := 74) C ⟨by (first | assumption | omega | (simp [bl, up] <;> omega)), by (first | assumption | omega | (simp [bl, up] <;> omega))⟩ u_7_13 dX1_isCatch_74 (g 3 k 0 0) (by simp [up]) ?_
      refine v_aload_n (pc := 77) C 1 rfl rfl dX1_isCatch_77 ?_
      refine gt_7_1 (pc := 78) C ⟨⟨by (first | assumption | omega | (simp [bl, up] <;> omega)), by (first | assumption | omega | (simp [bl, up] <;> omega))⟩, ⟨by (first | assumption | omega | (simp [bl, up] <;> omega)), by (first | assumption | omega | (simp [bl, up] <;> omega))⟩⟩ u_9_9 dX1_isCatch_78 (g 7 k (g 5 k 0 r) 1) (by simp [up]) ?_
      refine v_icmp_eq (pc := 81) C 86 ⟨by (first | assumption | omega | (simp [bl, up] <;> omega)), by (first | assumption | omega | (simp [bl, up] <;> omega))⟩ ⟨by (first | assumption | omega | (simp [bl, up] <;> omega)), by (first | assumption | omega | (simp [bl, up] <;> omega))⟩ (by decide) dX1_isCatch_81 (fun h81 => ?_) (fun h81 => ?_)
      · skip
        refine v_aload_n (pc := 86) C 0 rfl rfl dX1_isCatch_86 ?_
        refine v_dup (pc := 87) C rfl dX1_isCatch_87 ?_
        refine gt_6_1 (pc := 88) C ⟨⟨by (first | assumption | omega | (simp [bl, up] <;> omega)), by (first | assumption | omega | (simp [bl, up] <;> omega))⟩, ⟨by (first | assumption | omega | (simp [bl, up] <;> omega)), by (first | assumption | omega | (simp [bl, up] <;> omega))⟩⟩ u_8_4 dX1_isCatch_88 (g 6 k (g 7 k (g 5 k 0 r) 0) 1) (by simp [up]) ?_
        refine v_iconst (pc := 91) C dX1_isCatch_91 ?_
        refine v_iadd (pc := 92) C dX1_isCatch_92 ?_
        refine pt_6_1 (pc := 93) C ⟨⟨by (first | assumption | omega | (simp [bl, up] <;> omega)), by (first | assumption | omega | (simp [bl, up] <;> omega))⟩, ⟨by (first | assumption | omega | (simp [bl, up] <;> omega)), by (first | assumption | omega | (simp [bl, up] <;> omega))⟩⟩ u_8_4 dX1_isCatch_93 ?_
        refine v_aload_n (pc := 96) C 2 rfl rfl dX1_isCatch_96 ?_
        refine gt_1_4 (pc := 97) C ⟨by (first | assumption | omega | (simp [bl, up] <;> omega)), by (first | assumption | omega | (simp [bl, up] <;> omega))⟩ u_2_11 dX1_isCatch_97 ?_
        refine v_aload_n (pc := 100) C 1 rfl rfl dX1_isCatch_100 ?_
        refine gt_7_2 (pc := 101) C ⟨⟨by (first | assumption | omega | (simp [bl, up] <;> omega)), by (first | assumption | omega | (simp [bl, up] <;> omega))⟩, ⟨by (first | assumption | omega | (simp [bl, up] <;> omega)), by (first | assumption | omega | (simp [bl, up] <;> omega))⟩⟩ u_9_10 dX1_isCatch_101 (g 7 k (g 5 k 0 r) 2) (by simp [up]) ?_
        refine v_callvV (pc := 104) C cw_RX1_133 (rcv_3 ⟨by (first | assumption | omega | (simp [bl, up] <;> omega)), by (first | assumption | omega | (simp [bl, up] <;> omega))⟩) (ct_X0_followWord l L (up (up g 6 k (g 7 k (g 5 k 0 r) 0) 3 ((g 6 k (g 7 k (g 5 k 0 r) 0) 3) + 1)) 6 k (g 7 k (g 5 k 0 r) 0) 1 ((g 6 k (g 7 k (g 5 k 0 r) 0) 1) + 1)) k (g 7 k (g 5 k 0 r) 2) (by first | assumption | omega | (simp [bl, up] <;> omega)) (by first | assumption | omega | (simp [bl, up] <;> omega)) (by first | assumption | omega | (simp [bl, up] <;> omega)) (by first | assumption | omega | (simp [bl, up] <;> omega)) (by first | assumption | omega | (simp [bl, up] <;> omega))) ⟨Nat.le_of_ble_eq_true rfl, Nat.le_of_ble_eq_true rfl⟩ rfl (Nat.le_of_ble_eq_true rfl) ⟨Nat.le_of_ble_eq_true rfl, Nat.le_of_ble_eq_true rfl⟩ rfl dX1_isCatch_104 (fun u9 hP_2 => ?_)
        rw [hP_2]
        clear hP_2 u9
        refine v_iconst (pc := 107) C dX1_isCatch_107 ?_
        exact v_zret (pc := 108) C hr hlk (by first | assumption | omega | (simp [bl, up] <;> omega)) (⟨congrArg iI (by clear hw hPj hSo hPm hEc hPl; unfold icR eF; grind), by clear hw hPj hSo hPm hEc hPl; unfold icG eF; first | grind | (simp only [up_f (show (3 : Nat) ≠ 6 by decide)]; grind)⟩) dX1_isCatch_108
      · skip
        refine v_iconst (pc := 84) C dX1_isCatch_84 ?_
        exact v_zret (pc := 85) C hr hlk (by first | assumption | omega | (simp [bl, up] <;> omega)) (⟨congrArg iI (by clear hw hPj hSo hPm hEc hPl; unfold icR eF; grind), by clear hw hPj hSo hPm hEc hPl; unfold icG eF; first | grind | (simp only [up_f (show (3 : Nat) ≠ 6 by decide)]; grind)⟩) dX1_isCatch_85
    · skip
      refine v_aload_n (pc := 48) C 0 rfl rfl dX1_isCatch_48 ?_
      refine v_dup (pc := 49) C rfl dX1_isCatch_49 ?_
      refine gt_6_5 (pc := 50) C ⟨⟨by (first | assumption | omega | (simp [bl, up] <;> omega)), by (first | assumption | omega | (simp [bl, up] <;> omega))⟩, ⟨by (first | assumption | omega | (simp [bl, up] <;> omega)), by (first | assumption | omega | (simp [bl, up] <;> omega))⟩⟩ u_8_8 dX1_isCatch_50 (g 6 k (g 7 k (g 5 k 0 r) 0) 5) (rfl) ?_
      refine v_iconst (pc := 53) C dX1_isCatch_53 ?_
      refine v_iadd (pc := 54) C dX1_isCatch_54 ?_
      refine pt_6_5 (pc := 55) C ⟨⟨by (first | assumption | omega | (simp [bl, up] <;> omega)), by (first | assumption | omega | (simp [bl, up] <;> omega))⟩, ⟨by (first | assumption | omega | (simp [bl, up] <;> omega)), by (first | assumption | omega | (simp [bl, up] <;> omega))⟩⟩ u_8_8 dX1_isCatch_55 ?_
      refine v_iconst (pc := 58) C dX1_isCatch_58 ?_
      exact v_zret (pc := 59) C hr hlk (by first | assumption | omega | (simp [bl, up] <;> omega)) (⟨congrArg iI (by clear hw hPj hSo hPm hEc hPl; unfold icR eF; grind), by clear hw hPj hSo hPm hEc hPl; unfold icG eF; first | grind | (simp only [up_f (show (3 : Nat) ≠ 6 by decide)]; grind)⟩) dX1_isCatch_59
  · skip
    refine v_aload_n (pc := 25) C 0 rfl rfl dX1_isCatch_25 ?_
    refine v_dup (pc := 26) C rfl dX1_isCatch_26 ?_
    refine gt_6_4 (pc := 27) C ⟨⟨by (first | assumption | omega | (simp [bl, up] <;> omega)), by (first | assumption | omega | (simp [bl, up] <;> omega))⟩, ⟨by (first | assumption | omega | (simp [bl, up] <;> omega)), by (first | assumption | omega | (simp [bl, up] <;> omega))⟩⟩ u_8_7 dX1_isCatch_27 (g 6 k (g 7 k (g 5 k 0 r) 0) 4) (rfl) ?_
    refine v_iconst (pc := 30) C dX1_isCatch_30 ?_
    refine v_iadd (pc := 31) C dX1_isCatch_31 ?_
    refine pt_6_4 (pc := 32) C ⟨⟨by (first | assumption | omega | (simp [bl, up] <;> omega)), by (first | assumption | omega | (simp [bl, up] <;> omega))⟩, ⟨by (first | assumption | omega | (simp [bl, up] <;> omega)), by (first | assumption | omega | (simp [bl, up] <;> omega))⟩⟩ u_8_7 dX1_isCatch_32 ?_
    refine v_iconst (pc := 35) C dX1_isCatch_35 ?_
    exact v_zret (pc := 36) C hr hlk (by first | assumption | omega | (simp [bl, up] <;> omega)) (⟨congrArg iI (by clear hw hPj hSo hPm hEc hPl; unfold icR eF; grind), by clear hw hPj hSo hPm hEc hPl; unfold icG eF; first | grind | (simp only [up_f (show (3 : Nat) ≠ 6 by decide)]; grind)⟩) dX1_isCatch_36
set_option maxHeartbeats 4000000 in
set_option maxRecDepth 100000 in
theorem ct_X1_dropFirstEchoes (l : Launch) (L : Lay) (g : St) (k d b : Int) (hk : 0 ≤ k ∧ k < 9) (hw : wf g k d) (hd : 0 ≤ d ∧ d ≤ 1) (hb : 0 ≤ b ∧ b ≤ g 1 k 0 2) : Met l yX1_dropFirstEchoes (.code yX1_dropFirstEchoes cX1_dropFirstEchoes 4 none :: wsL_law) { frames := 0, cells := 0, slots := 0, locals := 0 } (va_Pc [.ref (adr L 1 k 0), .int (iI b)] (HS L g)) (va_Qv (fun (u : St) => drp g u k b) (fun u t => HS L u t) (Af L)) 0 0 (Af L) := by
  refine ct_mk (by decide +kernel) (Nat.le_of_ble_eq_true rfl) ?_
  intro pp ee ss mm bel mth cx C hr hlk
  show V pp l ee { frames := 0, cells := 0, slots := 0, locals := 0 } ss mm ([.ref (adr L 1 k 0), .int (iI b)]).toArray bel mth cx 4 L (HH L g) 0 0 _ 0 [(0, .ref (adr L 1 k 0)), (1, .int (iI b))] []
  obtain ⟨hS0, hS1, hS2, hB0, hB1, hB2, hCl, hN, hPl, hPm, hPj, hEc, hSo⟩ := id hw
  refine v_iload_n (pc := 0) C 1 rfl rfl dX1_dropFirstEchoes_0 ?_
  refine v_istore_n (pc := 1) C [(2, .int (iI b)), (0, .ref (adr L 1 k 0)), (1, .int (iI b))] rfl (by decide) rfl dX1_dropFirstEchoes_1 ?_
  have lb2 : ∀ (n9 : Nat) (i : Int) (u : St), (b ≤ i ∧ i ≤ g 1 k 0 2) → (drI g u k b i) → (g 1 k 0 2 - i).toNat < n9 → V pp l ee { frames := 0, cells := 0, slots := 0, locals := 0 } ss mm ([.ref (adr L 1 k 0), .int (iI b)]).toArray bel mth cx 4 L (HH L u) 0 0 (MQ bel (va_Qv (fun (u : St) => drp g u k b) (fun u t => HS L u t) (Af L)) ([.ref (adr L 1 k 0), .int (iI b)]).toArray ss 0 0 (Af L)) 2 [(0, .ref (adr L 1 k 0)), (1, .int (iI b)), (2, .int (iI i))] [] := by
    intro n9
    induction n9 with
    | zero => intro i u hi hu hm9; exact absurd hm9 (Nat.not_lt_zero _)
    | succ n9 ih9 =>
      intro i u hi hu hm9
      have hn : u 1 k 0 2 = g 1 k 0 2 := hu.1 1 k 0 2 (by omega)
      have ih2 := ih9
      refine v_iload_n (pc := 2) C 2 rfl rfl dX1_dropFirstEchoes_2 ?_
      refine v_aload_n (pc := 3) C 0 rfl rfl dX1_dropFirstEchoes_3 ?_
      refine gt_1_2 (pc := 4) C ⟨by (first | assumption | omega | (simp [bl, up] <;> omega)), by (first | assumption | omega | (simp [bl, up] <;> omega))⟩ u_6_2 dX1_dropFirstEchoes_4 (g 1 k 0 2) (hn) ?_
      refine v_icmp_ge (pc := 7) C 46 ⟨by (first | assumption | omega | (simp [bl, up] <;> omega)), by (first | assumption | omega | (simp [bl, up] <;> omega))⟩ ⟨by (first | assumption | omega | (simp [bl, up] <;> omega)), by (first | assumption | omega | (simp [bl, up] <;> omega))⟩ (by decide) dX1_dropFirstEchoes_7 (fun h7 => ?_) (fun h7 => ?_)
      · skip
        have hie : i = g 1 k 0 2 := by omega
        skip
        refine v_aload_n (pc := 46) C 0 rfl rfl dX1_dropFirstEchoes_46 ?_
        refine v_dup (pc := 47) C rfl dX1_dropFirstEchoes_47 ?_
        refine gt_1_2 (pc := 48) C ⟨by (first | assumption | omega | (simp [bl, up] <;> omega)), by (first | assumption | omega | (simp [bl, up] <;> omega))⟩ u_6_2 dX1_dropFirstEchoes_48 (g 1 k 0 2) (hn) ?_
        refine v_iload_n (pc := 51) C 1 rfl rfl dX1_dropFirstEchoes_51 ?_
        refine v_isub (pc := 52) C dX1_dropFirstEchoes_52 ?_
        refine pt_1_2 (pc := 53) C ⟨by (first | assumption | omega | (simp [bl, up] <;> omega)), by (first | assumption | omega | (simp [bl, up] <;> omega))⟩ u_6_2 dX1_dropFirstEchoes_53 ?_
        exact v_vret (pc := 56) C hr hlk (⟨u, by rw [← hie]; exact hu, rfl⟩) dX1_dropFirstEchoes_56
      · skip
        refine v_aload_n (pc := 10) C 0 rfl rfl dX1_dropFirstEchoes_10 ?_
        refine gt_1_6 (pc := 11) C ⟨by (first | assumption | omega | (simp [bl, up] <;> omega)), by (first | assumption | omega | (simp [bl, up] <;> omega))⟩ u_2_15 dX1_dropFirstEchoes_11 ?_
        refine v_iload_n (pc := 14) C 2 rfl rfl dX1_dropFirstEchoes_14 ?_
        refine v_iload_n (pc := 15) C 1 rfl rfl dX1_dropFirstEchoes_15 ?_
        refine v_isub (pc := 16) C dX1_dropFirstEchoes_16 ?_
        have hv1 := hu.2.2.2.1 (i - b) (by omega) (by omega)
        refine al_5 (pc := 17) C ⟨by (first | assumption | omega | (simp [bl, up] <;> omega)), by (first | assumption | omega | (simp [bl, up] <;> omega))⟩ ⟨by (first | assumption | omega | (simp [bl, up] <;> omega)), by (first | assumption | omega | (simp [bl, up] <;> omega))⟩ dX1_dropFirstEchoes_17 (u 5 k 0 (i - b)) (rfl) ?_
        refine v_astore_n (pc := 18) C [(3, .ref (adr L 7 k (u 5 k 0 (i - b)))), (0, .ref (adr L 1 k 0)), (1, .int (iI b)), (2, .int (iI i))] rfl (by decide) rfl dX1_dropFirstEchoes_18 ?_
        refine v_aload_n (pc := 19) C 1 rfl rfl dX1_dropFirstEchoes_19 ?_
        refine gt_1_6 (pc := 20) C ⟨by (first | assumption | omega | (simp [bl, up] <;> omega)), by (first | assumption | omega | (simp [bl, up] <;> omega))⟩ u_2_15 dX1_dropFirstEchoes_20 ?_
        refine v_iload_n (pc := 23) C 3 rfl rfl dX1_dropFirstEchoes_23 ?_
        refine v_iload_n (pc := 24) C 2 rfl rfl dX1_dropFirstEchoes_24 ?_
        refine v_isub (pc := 25) C dX1_dropFirstEchoes_25 ?_
        refine v_aload_n (pc := 26) C 1 rfl rfl dX1_dropFirstEchoes_26 ?_
        refine gt_1_6 (pc := 27) C ⟨by (first | assumption | omega | (simp [bl, up] <;> omega)), by (first | assumption | omega | (simp [bl, up] <;> omega))⟩ u_2_15 dX1_dropFirstEchoes_27 ?_
        refine v_iload_n (pc := 30) C 3 rfl rfl dX1_dropFirstEchoes_30 ?_
        have hv2 := hu.2.2.2.1 i (by omega) (by omega)
        refine al_5 (pc := 31) C ⟨by (first | assumption | omega | (simp [bl, up] <;> omega)), by (first | assumption | omega | (simp [bl, up] <;> omega))⟩ ⟨by (first | assumption | omega | (simp [bl, up] <;> omega)), by (first | assumption | omega | (simp [bl, up] <;> omega))⟩ dX1_dropFirstEchoes_31 (u 5 k 0 i) (rfl) ?_
        refine as_5 (pc := 32) C ⟨by (first | assumption | omega | (simp [bl, up] <;> omega)), by (first | assumption | omega | (simp [bl, up] <;> omega))⟩ ⟨by (first | assumption | omega | (simp [bl, up] <;> omega)), by (first | assumption | omega | (simp [bl, up] <;> omega))⟩ ⟨by (first | assumption | omega | (simp [bl, up] <;> omega)), by (first | assumption | omega | (simp [bl, up] <;> omega))⟩ dX1_dropFirstEchoes_32 ?_
        refine v_aload_n (pc := 33) C 1 rfl rfl dX1_dropFirstEchoes_33 ?_
        refine gt_1_6 (pc := 34) C ⟨by (first | assumption | omega | (simp [bl, up] <;> omega)), by (first | assumption | omega | (simp [bl, up] <;> omega))⟩ u_2_15 dX1_dropFirstEchoes_34 ?_
        refine v_iload_n (pc := 37) C 3 rfl rfl dX1_dropFirstEchoes_37 ?_
        refine v_aload_n (pc := 38) C 0 rfl rfl dX1_dropFirstEchoes_38 ?_
        refine as_5 (pc := 39) C ⟨by (first | assumption | omega | (simp [bl, up] <;> omega)), by (first | assumption | omega | (simp [bl, up] <;> omega))⟩ ⟨by (first | assumption | omega | (simp [bl, up] <;> omega)), by (first | assumption | omega | (simp [bl, up] <;> omega))⟩ ⟨by (first | assumption | omega | (simp [bl, up] <;> omega)), by (first | assumption | omega | (simp [bl, up] <;> omega))⟩ dX1_dropFirstEchoes_39 ?_
        refine v_iinc (pc := 40) C 3 [(2, .int (iI (i + 1))), (3, .ref (adr L 7 k (u 5 k 0 (i - b)))), (0, .ref (adr L 1 k 0)), (1, .int (iI b))] rfl (by decide) rfl dX1_dropFirstEchoes_40 ?_
        refine v_goto (pc := 43) C 2 (by decide) dX1_dropFirstEchoes_43 ?_
        refine v_lsub [2, 3, 0] rfl ?_
        exact ih2 (i + 1) (up (up u 5 k 0 (i - b) (u 5 k 0 i)) 5 k 0 i (u 5 k 0 (i - b))) (by omega) (by exact drI_s hb.1 hi.1 (by omega) hu) (by omega)
  refine v_lsub [1, 2, 0] rfl ?_
  exact lb2 _ b g (by omega) (by exact drI_0 hw hb.1) (Nat.lt_succ_self _)
set_option maxHeartbeats 4000000 in
set_option maxRecDepth 100000 in
theorem ct_X1_addEcho (l : Launch) (L : Lay) (g : St) (k p w y : Int) (hk : 0 ≤ k ∧ k < 9) (hw : wf g k 1) (hp : 0 ≤ p ∧ p < 4) (hw2 : 0 ≤ w ∧ w ≤ 9) (hy : 0 ≤ y ∧ y ≤ 1) (hn : g 1 k 0 2 < 24) : Met l yX1_addEcho (.code yX1_addEcho cX1_addEcho 6 none :: wsL_law) { frames := 2, cells := 0, slots := 0, locals := 46 } (va_Pc [.ref (adr L 1 k 0), .int (iI p), .int (iI w), .int (iI y)] (HS L g)) (va_Qv (fun (u : St) => ∃ a, adC g k p y a ∧ u = adG g k p w y a) (fun u t => HS L u t) (Af L)) 0 0 (Af L) := by
  refine ct_mk (by decide +kernel) (Nat.le_of_ble_eq_true rfl) ?_
  intro pp ee ss mm bel mth cx C hr hlk
  show V pp l ee { frames := 2, cells := 0, slots := 0, locals := 46 } ss mm ([.ref (adr L 1 k 0), .int (iI p), .int (iI w), .int (iI y)]).toArray bel mth cx 6 L (HH L g) 0 0 _ 0 [(0, .ref (adr L 1 k 0)), (1, .int (iI p)), (2, .int (iI w)), (3, .int (iI y))] []
  obtain ⟨hS0, hS1, hS2, hB0, hB1, hB2, hCl, hN, hPl, hPm, hPj, hEc, hSo⟩ := id hw
  have hpl := hPl p hp.1 hp.2
  have hpn := hPm (g 1 k 0 2) (by omega) hn
  have hty := eT_in (w := y) hw hpl
  refine v_aload_n (pc := 0) C 0 rfl rfl dX1_addEcho_0 ?_
  refine gt_1_2 (pc := 1) C ⟨by (first | assumption | omega | (simp [bl, up] <;> omega)), by (first | assumption | omega | (simp [bl, up] <;> omega))⟩ u_6_2 dX1_addEcho_1 (g 1 k 0 2) (rfl) ?_
  refine v_aload_n (pc := 4) C 0 rfl rfl dX1_addEcho_4 ?_
  refine gt_1_6 (pc := 5) C ⟨by (first | assumption | omega | (simp [bl, up] <;> omega)), by (first | assumption | omega | (simp [bl, up] <;> omega))⟩ u_2_15 dX1_addEcho_5 ?_
  refine v_alen (pc := 8) (t0 := 4) C (kl_5 (by (first | assumption | omega | (simp [bl, up] <;> omega))) (by (first | assumption | omega | (simp [bl, up] <;> omega)))) rfl rfl 24 rfl dX1_addEcho_8 ?_
  refine v_icmp_lt (pc := 9) C 13 ⟨by (first | assumption | omega | (simp [bl, up] <;> omega)), by (first | assumption | omega | (simp [bl, up] <;> omega))⟩ ⟨by (first | assumption | omega | (simp [bl, up] <;> omega)), by (first | assumption | omega | (simp [bl, up] <;> omega))⟩ (by decide) dX1_addEcho_9 (fun h9 => ?_) (fun h9 => ?_)
  · skip
    refine v_aload_n (pc := 13) C 0 rfl rfl dX1_addEcho_13 ?_
    refine gt_1_6 (pc := 14) C ⟨by (first | assumption | omega | (simp [bl, up] <;> omega)), by (first | assumption | omega | (simp [bl, up] <;> omega))⟩ u_2_15 dX1_addEcho_14 ?_
    refine v_aload_n (pc := 17) C 0 rfl rfl dX1_addEcho_17 ?_
    refine gt_1_2 (pc := 18) C ⟨by (first | assumption | omega | (simp [bl, up] <;> omega)), by (first | assumption | omega | (simp [bl, up] <;> omega))⟩ u_6_2 dX1_addEcho_18 (g 1 k 0 2) (rfl) ?_
    refine al_5 (pc := 21) C ⟨by (first | assumption | omega | (simp [bl, up] <;> omega)), by (first | assumption | omega | (simp [bl, up] <;> omega))⟩ ⟨by (first | assumption | omega | (simp [bl, up] <;> omega)), by (first | assumption | omega | (simp [bl, up] <;> omega))⟩ dX1_addEcho_21 (g 5 k 0 (g 1 k 0 2)) (rfl) ?_
    refine v_astore (pc := 22) C [(4, .ref (adr L 7 k (g 5 k 0 (g 1 k 0 2)))), (0, .ref (adr L 1 k 0)), (1, .int (iI p)), (2, .int (iI w)), (3, .int (iI y))] (by decide) rfl dX1_addEcho_22 ?_
    refine v_aload (pc := 24) C 0 rfl dX1_addEcho_24 ?_
    refine v_iload_n (pc := 26) C 2 rfl rfl dX1_addEcho_26 ?_
    refine pt_7_0 (pc := 27) C ⟨⟨by (first | assumption | omega | (simp [bl, up] <;> omega)), by (first | assumption | omega | (simp [bl, up] <;> omega))⟩, ⟨by (first | assumption | omega | (simp [bl, up] <;> omega)), by (first | assumption | omega | (simp [bl, up] <;> omega))⟩⟩ u_8_13 dX1_addEcho_27 ?_
    refine v_aload (pc := 30) C 0 rfl dX1_addEcho_30 ?_
    refine v_aload_n (pc := 32) C 1 rfl rfl dX1_addEcho_32 ?_
    refine gt_1_5 (pc := 33) C ⟨by (first | assumption | omega | (simp [bl, up] <;> omega)), by (first | assumption | omega | (simp [bl, up] <;> omega))⟩ u_2_13 dX1_addEcho_33 ?_
    refine v_iload_n (pc := 36) C 2 rfl rfl dX1_addEcho_36 ?_
    refine al_4 (pc := 37) C ⟨by (first | assumption | omega | (simp [bl, up] <;> omega)), by (first | assumption | omega | (simp [bl, up] <;> omega))⟩ ⟨by (first | assumption | omega | (simp [bl, up] <;> omega)), by (first | assumption | omega | (simp [bl, up] <;> omega))⟩ dX1_addEcho_37 ?_
    refine gt_6_0 (pc := 38) C ⟨⟨by (first | assumption | omega | (simp [bl, up] <;> omega)), by (first | assumption | omega | (simp [bl, up] <;> omega))⟩, ⟨by (first | assumption | omega | (simp [bl, up] <;> omega)), by (first | assumption | omega | (simp [bl, up] <;> omega))⟩⟩ u_4_23 dX1_addEcho_38 (g 6 k p 0) (by simp [up]) ?_
    refine pt_7_1 (pc := 41) C ⟨⟨by (first | assumption | omega | (simp [bl, up] <;> omega)), by (first | assumption | omega | (simp [bl, up] <;> omega))⟩, ⟨by (first | assumption | omega | (simp [bl, up] <;> omega)), by (first | assumption | omega | (simp [bl, up] <;> omega))⟩⟩ u_9_9 dX1_addEcho_41 ?_
    refine v_aload (pc := 44) C 0 rfl dX1_addEcho_44 ?_
    refine v_iload_n (pc := 46) C 3 rfl rfl dX1_addEcho_46 ?_
    refine pt_7_2 (pc := 47) C ⟨⟨by (first | assumption | omega | (simp [bl, up] <;> omega)), by (first | assumption | omega | (simp [bl, up] <;> omega))⟩, ⟨by (first | assumption | omega | (simp [bl, up] <;> omega)), by (first | assumption | omega | (simp [bl, up] <;> omega))⟩⟩ u_9_10 dX1_addEcho_47 ?_
    refine v_aload (pc := 50) C 0 rfl dX1_addEcho_50 ?_
    refine v_iload_n (pc := 52) C 4 rfl rfl dX1_addEcho_52 ?_
    refine pt_7_4 (pc := 53) C ⟨⟨by (first | assumption | omega | (simp [bl, up] <;> omega)), by (first | assumption | omega | (simp [bl, up] <;> omega))⟩, ⟨by (first | assumption | omega | (simp [bl, up] <;> omega)), by (first | assumption | omega | (simp [bl, up] <;> omega))⟩⟩ u_9_12 dX1_addEcho_53 ?_
    refine v_aload (pc := 56) C 0 rfl dX1_addEcho_56 ?_
    refine v_aload_n (pc := 58) C 1 rfl rfl dX1_addEcho_58 ?_
    refine gt_1_0 (pc := 59) C ⟨by (first | assumption | omega | (simp [bl, up] <;> omega)), by (first | assumption | omega | (simp [bl, up] <;> omega))⟩ u_6_3 dX1_addEcho_59 (g 1 k 0 0) (by simp [up]) ?_
    refine v_aload_n (pc := 62) C 1 rfl rfl dX1_addEcho_62 ?_
    refine v_aload (pc := 63) C 0 rfl dX1_addEcho_63 ?_
    refine gt_7_1 (pc := 65) C ⟨⟨by (first | assumption | omega | (simp [bl, up] <;> omega)), by (first | assumption | omega | (simp [bl, up] <;> omega))⟩, ⟨by (first | assumption | omega | (simp [bl, up] <;> omega)), by (first | assumption | omega | (simp [bl, up] <;> omega))⟩⟩ u_9_9 dX1_addEcho_65 (g 6 k p 0) (by simp [up]) ?_
    refine v_iload_n (pc := 68) C 4 rfl rfl dX1_addEcho_68 ?_
    refine v_calliV (pc := 69) C cw_RX1_91 (rcv_1 ⟨by (first | assumption | omega | (simp [bl, up] <;> omega)), by (first | assumption | omega | (simp [bl, up] <;> omega))⟩) (ct_X1_echoTime l L (up (up (up (up g 7 k (g 5 k 0 (g 1 k 0 2)) 0 p) 7 k (g 5 k 0 (g 1 k 0 2)) 1 (g 6 k p 0)) 7 k (g 5 k 0 (g 1 k 0 2)) 2 w) 7 k (g 5 k 0 (g 1 k 0 2)) 4 y) k (g 6 k p 0) y (by first | assumption | omega | (simp [bl, up] <;> omega)) (by first | assumption | omega | (simp [bl, up] <;> omega)) (by first | assumption | omega | (simp [bl, up] <;> omega)) (by first | assumption | omega | (simp [bl, up] <;> omega)) (by first | assumption | omega | (simp [bl, up] <;> omega)) (by first | assumption | omega | (simp [bl, up] <;> omega))) ⟨Nat.le_of_ble_eq_true rfl, Nat.le_of_ble_eq_true rfl⟩ rfl (Nat.le_of_ble_eq_true rfl) ⟨Nat.le_of_ble_eq_true rfl, Nat.le_of_ble_eq_true rfl⟩ rfl dX1_addEcho_69 (fun r9 u9 hP_1 => ?_)
    obtain ⟨hP_1, hP_1b⟩ := hP_1
    rw [hP_1, hP_1b]
    clear hP_1 hP_1b r9 u9
    refine v_iadd (pc := 72) C dX1_addEcho_72 ?_
    refine pt_7_3 (pc := 73) C ⟨⟨by (first | assumption | omega | (simp [bl, up] <;> omega)), by (first | assumption | omega | (simp [bl, up] <;> omega))⟩, ⟨by (first | assumption | omega | (simp [bl, up] <;> omega)), by (first | assumption | omega | (simp [bl, up] <;> omega))⟩⟩ u_9_11 dX1_addEcho_73 ?_
    refine v_aload_n (pc := 76) C 1 rfl rfl dX1_addEcho_76 ?_
    refine gt_1_2 (pc := 77) C ⟨by (first | assumption | omega | (simp [bl, up] <;> omega)), by (first | assumption | omega | (simp [bl, up] <;> omega))⟩ u_6_2 dX1_addEcho_77 (g 1 k 0 2) (by simp [up]) ?_
    refine v_istore (pc := 80) C [(5, .int (iI (g 1 k 0 2))), (4, .ref (adr L 7 k (g 5 k 0 (g 1 k 0 2)))), (0, .ref (adr L 1 k 0)), (1, .int (iI p)), (2, .int (iI w)), (3, .int (iI y))] (by decide) rfl dX1_addEcho_80 ?_
    have lb82 : ∀ (n9 : Nat) (i : Int), (0 ≤ i ∧ i ≤ g 1 k 0 2) → (∀ r, i ≤ r → r < g 1 k 0 2 → g 1 k 0 0 + eT g k (g 6 k p 0) y < eF g k r 3) → (i).toNat < n9 → V pp l ee { frames := 2, cells := 0, slots := 0, locals := 46 } ss mm ([.ref (adr L 1 k 0), .int (iI p), .int (iI w), .int (iI y)]).toArray bel mth cx 6 L (HH L (shG (ecG g k p w y) k (g 1 k 0 2) i)) 0 0 (MQ bel (va_Qv (fun (u : St) => ∃ a, adC g k p y a ∧ u = adG g k p w y a) (fun u t => HS L u t) (Af L)) ([.ref (adr L 1 k 0), .int (iI p), .int (iI w), .int (iI y)]).toArray ss 0 0 (Af L)) 82 [(0, .ref (adr L 1 k 0)), (4, .ref (adr L 7 k (g 5 k 0 (g 1 k 0 2)))), (5, .int (iI i))] [] := by
      intro n9
      induction n9 with
      | zero => intro i hi hq hm9; exact absurd hm9 (Nat.not_lt_zero _)
      | succ n9 ih9 =>
        intro i hi hq hm9
        have ih82 := ih9
        refine v_iload (pc := 82) C 2 rfl dX1_addEcho_82 ?_
        refine v_if_le (pc := 84) C 129 ⟨by (first | assumption | omega | (simp [bl, up] <;> omega)), by (first | assumption | omega | (simp [bl, up] <;> omega))⟩ (by decide) dX1_addEcho_84 (fun h84 => ?_) (fun h84 => ?_)
        · skip
          refine v_aload_n (pc := 129) C 0 rfl rfl dX1_addEcho_129 ?_
          refine gt_1_6 (pc := 130) C ⟨by (first | assumption | omega | (simp [bl, up] <;> omega)), by (first | assumption | omega | (simp [bl, up] <;> omega))⟩ u_2_15 dX1_addEcho_130 ?_
          refine v_iload (pc := 133) C 2 rfl dX1_addEcho_133 ?_
          refine v_aload (pc := 135) C 1 rfl dX1_addEcho_135 ?_
          refine as_5 (pc := 137) C ⟨by (first | assumption | omega | (simp [bl, up] <;> omega)), by (first | assumption | omega | (simp [bl, up] <;> omega))⟩ ⟨by (first | assumption | omega | (simp [bl, up] <;> omega)), by (first | assumption | omega | (simp [bl, up] <;> omega))⟩ ⟨by (first | assumption | omega | (simp [bl, up] <;> omega)), by (first | assumption | omega | (simp [bl, up] <;> omega))⟩ dX1_addEcho_137 ?_
          refine v_aload_n (pc := 138) C 0 rfl rfl dX1_addEcho_138 ?_
          refine v_dup (pc := 139) C rfl dX1_addEcho_139 ?_
          refine gt_1_2 (pc := 140) C ⟨by (first | assumption | omega | (simp [bl, up] <;> omega)), by (first | assumption | omega | (simp [bl, up] <;> omega))⟩ u_6_2 dX1_addEcho_140 (g 1 k 0 2) (by simp [up, shG, ecG]) ?_
          refine v_iconst (pc := 143) C dX1_addEcho_143 ?_
          refine v_iadd (pc := 144) C dX1_addEcho_144 ?_
          refine pt_1_2 (pc := 145) C ⟨by (first | assumption | omega | (simp [bl, up] <;> omega)), by (first | assumption | omega | (simp [bl, up] <;> omega))⟩ u_6_2 dX1_addEcho_145 ?_
          exact v_vret (pc := 148) C hr hlk (⟨i, ⟨hi, fun h0 => by unfold eF; omega, hq⟩, rfl⟩) dX1_addEcho_148
        · skip
          refine v_aload_n (pc := 87) C 0 rfl rfl dX1_addEcho_87 ?_
          refine gt_1_6 (pc := 88) C ⟨by (first | assumption | omega | (simp [bl, up] <;> omega)), by (first | assumption | omega | (simp [bl, up] <;> omega))⟩ u_2_15 dX1_addEcho_88 ?_
          refine v_iload (pc := 91) C 2 rfl dX1_addEcho_91 ?_
          refine v_iconst (pc := 93) C dX1_addEcho_93 ?_
          refine v_isub (pc := 94) C dX1_addEcho_94 ?_
          have hv95 := hPm (i - 1) (by omega) (by omega)
          have hE95 := hEc (i - 1) (by omega) (by omega)
          unfold okE at hE95
          refine al_5 (pc := 95) C ⟨by (first | assumption | omega | (simp [bl, up] <;> omega)), by (first | assumption | omega | (simp [bl, up] <;> omega))⟩ ⟨by (first | assumption | omega | (simp [bl, up] <;> omega)), by (first | assumption | omega | (simp [bl, up] <;> omega))⟩ dX1_addEcho_95 (g 5 k 0 (i - 1)) (by simp only [shG]; rw [if_neg (by omega)]; simp [ecG, up]) ?_
          refine gt_7_3 (pc := 96) C ⟨⟨by (first | assumption | omega | (simp [bl, up] <;> omega)), by (first | assumption | omega | (simp [bl, up] <;> omega))⟩, ⟨by (first | assumption | omega | (simp [bl, up] <;> omega)), by (first | assumption | omega | (simp [bl, up] <;> omega))⟩⟩ u_9_11 dX1_addEcho_96 (g 7 k (g 5 k 0 (i - 1)) 3) (by simp only [shG]; rw [if_neg (by omega)]; have hne : g 5 k 0 (i - 1) ≠ g 5 k 0 (g 1 k 0 2) := (fun h => by have := hPj _ _ (by omega) (by omega) (by omega) hn h; omega); simp [ecG, up, hne]) ?_
          refine v_aload (pc := 99) C 1 rfl dX1_addEcho_99 ?_
          refine gt_7_3 (pc := 101) C ⟨⟨by (first | assumption | omega | (simp [bl, up] <;> omega)), by (first | assumption | omega | (simp [bl, up] <;> omega))⟩, ⟨by (first | assumption | omega | (simp [bl, up] <;> omega)), by (first | assumption | omega | (simp [bl, up] <;> omega))⟩⟩ u_9_11 dX1_addEcho_101 (g 1 k 0 0 + eT g k (g 6 k p 0) y) (by simp only [shG]; rw [if_neg (by omega)]; simp [ecG, up]) ?_
          refine v_icmp_le (pc := 104) C 129 ⟨by (first | assumption | omega | (simp [bl, up] <;> omega)), by (first | assumption | omega | (simp [bl, up] <;> omega))⟩ ⟨by (first | assumption | omega | (simp [bl, up] <;> omega)), by (first | assumption | omega | (simp [bl, up] <;> omega))⟩ (by decide) dX1_addEcho_104 (fun h104 => ?_) (fun h104 => ?_)
          · skip
            refine v_aload_n (pc := 129) C 0 rfl rfl dX1_addEcho_129 ?_
            refine gt_1_6 (pc := 130) C ⟨by (first | assumption | omega | (simp [bl, up] <;> omega)), by (first | assumption | omega | (simp [bl, up] <;> omega))⟩ u_2_15 dX1_addEcho_130 ?_
            refine v_iload (pc := 133) C 2 rfl dX1_addEcho_133 ?_
            refine v_aload (pc := 135) C 1 rfl dX1_addEcho_135 ?_
            refine as_5 (pc := 137) C ⟨by (first | assumption | omega | (simp [bl, up] <;> omega)), by (first | assumption | omega | (simp [bl, up] <;> omega))⟩ ⟨by (first | assumption | omega | (simp [bl, up] <;> omega)), by (first | assumption | omega | (simp [bl, up] <;> omega))⟩ ⟨by (first | assumption | omega | (simp [bl, up] <;> omega)), by (first | assumption | omega | (simp [bl, up] <;> omega))⟩ dX1_addEcho_137 ?_
            refine v_aload_n (pc := 138) C 0 rfl rfl dX1_addEcho_138 ?_
            refine v_dup (pc := 139) C rfl dX1_addEcho_139 ?_
            refine gt_1_2 (pc := 140) C ⟨by (first | assumption | omega | (simp [bl, up] <;> omega)), by (first | assumption | omega | (simp [bl, up] <;> omega))⟩ u_6_2 dX1_addEcho_140 (g 1 k 0 2) (by simp [up, shG, ecG]) ?_
            refine v_iconst (pc := 143) C dX1_addEcho_143 ?_
            refine v_iadd (pc := 144) C dX1_addEcho_144 ?_
            refine pt_1_2 (pc := 145) C ⟨by (first | assumption | omega | (simp [bl, up] <;> omega)), by (first | assumption | omega | (simp [bl, up] <;> omega))⟩ u_6_2 dX1_addEcho_145 ?_
            exact v_vret (pc := 148) C hr hlk (⟨i, ⟨hi, fun h0 => by unfold eF; omega, hq⟩, rfl⟩) dX1_addEcho_148
          · skip
            refine v_aload_n (pc := 107) C 0 rfl rfl dX1_addEcho_107 ?_
            refine gt_1_6 (pc := 108) C ⟨by (first | assumption | omega | (simp [bl, up] <;> omega)), by (first | assumption | omega | (simp [bl, up] <;> omega))⟩ u_2_15 dX1_addEcho_108 ?_
            refine v_iload (pc := 111) C 2 rfl dX1_addEcho_111 ?_
            refine v_aload_n (pc := 113) C 0 rfl rfl dX1_addEcho_113 ?_
            refine gt_1_6 (pc := 114) C ⟨by (first | assumption | omega | (simp [bl, up] <;> omega)), by (first | assumption | omega | (simp [bl, up] <;> omega))⟩ u_2_15 dX1_addEcho_114 ?_
            refine v_iload (pc := 117) C 2 rfl dX1_addEcho_117 ?_
            refine v_iconst (pc := 119) C dX1_addEcho_119 ?_
            refine v_isub (pc := 120) C dX1_addEcho_120 ?_
            skip
            refine al_5 (pc := 121) C ⟨by (first | assumption | omega | (simp [bl, up] <;> omega)), by (first | assumption | omega | (simp [bl, up] <;> omega))⟩ ⟨by (first | assumption | omega | (simp [bl, up] <;> omega)), by (first | assumption | omega | (simp [bl, up] <;> omega))⟩ dX1_addEcho_121 (g 5 k 0 (i - 1)) (by simp only [shG]; rw [if_neg (by omega)]; simp [ecG, up]) ?_
            refine as_5 (pc := 122) C ⟨by (first | assumption | omega | (simp [bl, up] <;> omega)), by (first | assumption | omega | (simp [bl, up] <;> omega))⟩ ⟨by (first | assumption | omega | (simp [bl, up] <;> omega)), by (first | assumption | omega | (simp [bl, up] <;> omega))⟩ ⟨by (first | assumption | omega | (simp [bl, up] <;> omega)), by (first | assumption | omega | (simp [bl, up] <;> omega))⟩ dX1_addEcho_122 ?_
            refine v_iinc (pc := 123) C 2 [(5, .int (iI (i + (-1)))), (0, .ref (adr L 1 k 0)), (4, .ref (adr L 7 k (g 5 k 0 (g 1 k 0 2))))] rfl (by decide) rfl dX1_addEcho_123 ?_
            refine v_goto (pc := 126) C 82 (by decide) dX1_addEcho_126 ?_
            refine v_lsub [1, 2, 0] rfl ?_
            refine v_st (g2 := shG (ecG g k p w y) k (g 1 k 0 2) (i + (-1))) C (by rw [show i + (-1) = i - 1 by omega, ← shG_s _ _ _ i (by omega)]; congr 1; simp only [shG]; rw [if_neg (by omega)]; simp [ecG, up]) ?_
            exact ih82 (i + (-1)) (by omega) (by intro r hr1 hr2; exact (if hr : r = i - 1 then (by rw [hr]; unfold eF; omega) else hq r (by omega) hr2)) (by omega)
    refine v_lsub [2, 1, 0] rfl ?_
    refine v_st (g2 := shG (ecG g k p w y) k (g 1 k 0 2) (g 1 k 0 2)) C (by rw [shG_n]; rfl) ?_
    exact lb82 _ (g 1 k 0 2) (by omega) (by intro r hr1 hr2; omega) (Nat.lt_succ_self _)
  · skip
    exfalso; omega
