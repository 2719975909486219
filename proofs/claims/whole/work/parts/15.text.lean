/-! pure words of the text -/
def cdA (g : St) (i : Int) : Int := if 0 ≤ i ∧ i < g 12 0 0 1 then g 13 0 0 i else -1
def wt (g : St) : Prop := (0 ≤ g 12 0 0 1 ∧ g 12 0 0 1 ≤ 60) ∧ ∀ i : Int, 0 ≤ i → i < 60 → 0 ≤ g 13 0 0 i ∧ g 13 0 0 i ≤ 126
theorem cdA_in {g : St} (h : wt g) (i : Int) : -1 ≤ cdA g i ∧ cdA g i ≤ 126 := by
  unfold cdA
  split
  · have := h.2 i (by omega) (by have := h.1; omega); omega
  · omega
def saS (c : Int) : Int := if c = 99 then 1 else if c = 109 then 4 else if c = 116 then 7 else -1
def saO (c : Int) : Int := if c = 59 then 0 else -1
abbrev isPl (c : Int) : Prop := 48 ≤ c ∧ c < 52
abbrev isDg (c : Int) : Prop := 48 ≤ c ∧ c ≤ 57
/-- the next state of the reading -/
def stA (s c : Int) : Int := if s = 0 then saS c else if s = 1 then (if isPl c then 2 else -1) else if s = 2 then (if c = 61 then 3 else -1) else if s = 3 then (if isDg c then 9 else -1) else if s = 4 then (if isPl c then 5 else -1) else if s = 5 then (if c = 43 ∨ c = 45 then 6 else -1) else if s = 6 then (if isDg c ∧ c ≠ 48 then 9 else -1) else if s = 7 then (if isDg c ∧ c ≠ 48 then 8 else -1) else if s = 8 then (if isDg c then 9 else saO c) else if s = 9 then saO c else -1
theorem stA_in (s c : Int) : -1 ≤ stA s c ∧ stA s c ≤ 9 := by
  unfold stA saS saO
  (repeat' split) <;> omega
def stN (c : Int → Int) : Nat → Int
  | 0 => 0
  | n + 1 => stA (stN c n) (c n)
theorem stN_in (c : Int → Int) : ∀ n, -1 ≤ stN c n ∧ stN c n ≤ 9
  | 0 => ⟨by simp [stN], by simp [stN]⟩
  | _ + 1 => stA_in _ _
theorem stN_s {c : Int → Int} {i : Int} (h : 0 ≤ i) : stN c (i + 1).toNat = stA (stN c i.toNat) (c i) := by
  rw [show (i + 1).toNat = i.toNat + 1 by omega, stN, show ((i.toNat : Nat) : Int) = i by omega]
def pEr (c : Int → Int) : Int → Bool := fun i => decide (stN c (i + 1).toNat = -1)
/-- the first error's place -/
def erI (c : Int → Int) (n : Int) : Int := if frst (pEr c) n.toNat 0 = -1 then n else frst (pEr c) n.toNat 0

theorem cw_RX5_19 : CWs RX5 19 yX5_stateAfter cX5_stateAfter 2 (some .int) 2 := ⟨u_18_9, u_18_10, u_2_2, u_18_11, by decide +kernel⟩
theorem cw_RX5_23 : CWs RX5 23 yX5_stateAfterStart cX5_stateAfterStart 1 (some .int) 1 := ⟨u_18_12, u_18_13, u_2_2, u_18_14, by decide +kernel⟩
theorem cw_RX5_27 : CWs RX5 27 yX5_isPlayer cX5_isPlayer 1 (some .boolean) 1 := ⟨u_18_15, u_18_16, u_2_2, u_18_17, by decide +kernel⟩
theorem cw_RX5_31 : CWs RX5 31 yX5_isDigit cX5_isDigit 1 (some .boolean) 1 := ⟨u_18_18, u_18_19, u_2_2, u_18_20, by decide +kernel⟩
theorem cw_RX5_34 : CWs RX5 34 yX5_stateAfterOrder cX5_stateAfterOrder 1 (some .int) 1 := ⟨u_18_21, u_18_22, u_2_2, u_18_23, by decide +kernel⟩
theorem cw_RX5_37 : CW RX5 37 RX5 yX5_codeAt cX5_codeAt 2 (some .int) 1 := ⟨u_21_7, u_21_8, u_21_9, u_2_2, u_21_10, by decide +kernel⟩
theorem cw_RX5_40 : CW RX5 40 RX5 yX5_digitAt cX5_digitAt 2 (some .int) 1 := ⟨u_22_0, u_21_17, u_21_18, u_2_2, u_21_19, by decide +kernel⟩
set_option maxHeartbeats 4000000 in
set_option maxRecDepth 100000 in
theorem ct_X5_isFull (l : Launch) (L : Lay) (g : St) (ht : wt g) : Met l yX5_isFull (.code yX5_isFull cX5_isFull 1 (some .boolean) :: wsL_law) { frames := 0, cells := 0, slots := 0, locals := 0 } (va_Pc [.ref (adr L 12 0 0)] (HS L g)) (va_Qi (fun (r9 : Int32) (u9 : St) => r9 = iI (if 60 ≤ g 12 0 0 1 then 1 else 0) ∧ u9 = g) (fun u t => HS L u t) (Af L)) 0 0 (Af L) := by
  refine ct_mk (by decide +kernel) (Nat.le_of_ble_eq_true rfl) ?_
  intro pp ee ss mm bel mth cx C hr hlk
  show V pp l ee { frames := 0, cells := 0, slots := 0, locals := 0 } ss mm ([.ref (adr L 12 0 0)]).toArray bel mth cx 1 L (HH L g) 0 0 _ 0 [(0, .ref (adr L 12 0 0))] []
  obtain ⟨hL, hC⟩ := id ht
  refine v_aload_n (pc := 0) C 0 rfl rfl dX5_isFull_0 ?_
  refine gt_12_1 (pc := 1) C u_17_7 dX5_isFull_1 (g 12 0 0 1) (rfl) ?_
  refine v_bipush (pc := 4) C rfl dX5_isFull_4 ?_
  refine v_icmp_lt (pc := 6) C 13 ⟨by (first | assumption | omega | (simp [bl, up] <;> omega)), by (first | assumption | omega | (simp [bl, up] <;> omega))⟩ ⟨by (first | assumption | omega | (simp [bl, up] <;> omega)), by (first | assumption | omega | (simp [bl, up] <;> omega))⟩ (by decide) dX5_isFull_6 (fun h6 => ?_) (fun h6 => ?_)
  · skip
    refine v_iconst (pc := 13) C dX5_isFull_13 ?_
    exact v_zret (pc := 14) C hr hlk (by first | assumption | omega | (simp [bl, up] <;> omega)) (⟨congrArg iI (by grind), rfl⟩) dX5_isFull_14
  · skip
    refine v_iconst (pc := 9) C dX5_isFull_9 ?_
    refine v_goto (pc := 10) C 14 (by decide) dX5_isFull_10 ?_
    exact v_zret (pc := 14) C hr hlk (by first | assumption | omega | (simp [bl, up] <;> omega)) (⟨congrArg iI (by grind), rfl⟩) dX5_isFull_14
set_option maxHeartbeats 4000000 in
set_option maxRecDepth 100000 in
theorem ct_X5_add (l : Launch) (L : Lay) (g : St) (a : Int) (ht : wt g) (hl : g 12 0 0 1 < 60) : Met l yX5_add (.code yX5_add cX5_add 2 none :: wsL_law) { frames := 0, cells := 0, slots := 0, locals := 0 } (va_Pc [.ref (adr L 12 0 0), .int (iI a)] (HS L g)) (va_Qv (fun (u9 : St) => u9 = (up (up g 13 0 0 (g 12 0 0 1) a) 12 0 0 1 (g 12 0 0 1 + 1))) (fun u t => HS L u t) (Af L)) 0 0 (Af L) := by
  refine ct_mk (by decide +kernel) (Nat.le_of_ble_eq_true rfl) ?_
  intro pp ee ss mm bel mth cx C hr hlk
  show V pp l ee { frames := 0, cells := 0, slots := 0, locals := 0 } ss mm ([.ref (adr L 12 0 0), .int (iI a)]).toArray bel mth cx 2 L (HH L g) 0 0 _ 0 [(0, .ref (adr L 12 0 0)), (1, .int (iI a))] []
  obtain ⟨hL, hC⟩ := id ht
  refine v_aload_n (pc := 0) C 0 rfl rfl dX5_add_0 ?_
  refine gt_12_1 (pc := 1) C u_17_7 dX5_add_1 (g 12 0 0 1) (rfl) ?_
  refine v_bipush (pc := 4) C rfl dX5_add_4 ?_
  refine v_icmp_ge (pc := 6) C 29 ⟨by (first | assumption | omega | (simp [bl, up] <;> omega)), by (first | assumption | omega | (simp [bl, up] <;> omega))⟩ ⟨by (first | assumption | omega | (simp [bl, up] <;> omega)), by (first | assumption | omega | (simp [bl, up] <;> omega))⟩ (by decide) dX5_add_6 (fun h6 => ?_) (fun h6 => ?_)
  · skip
    exfalso; omega
  · skip
    refine v_aload_n (pc := 9) C 0 rfl rfl dX5_add_9 ?_
    refine gt_12_0 (pc := 10) C u_3_23 dX5_add_10 ?_
    refine v_aload_n (pc := 13) C 0 rfl rfl dX5_add_13 ?_
    refine gt_12_1 (pc := 14) C u_17_7 dX5_add_14 (g 12 0 0 1) (rfl) ?_
    refine v_iload_n (pc := 17) C 1 rfl rfl dX5_add_17 ?_
    refine as_13 (pc := 18) C ⟨by (first | assumption | omega | (simp [bl, up] <;> omega)), by (first | assumption | omega | (simp [bl, up] <;> omega))⟩ dX5_add_18 ?_
    refine v_aload_n (pc := 19) C 0 rfl rfl dX5_add_19 ?_
    refine v_dup (pc := 20) C rfl dX5_add_20 ?_
    refine gt_12_1 (pc := 21) C u_17_7 dX5_add_21 (g 12 0 0 1) (by simp [up]) ?_
    refine v_iconst (pc := 24) C dX5_add_24 ?_
    refine v_iadd (pc := 25) C dX5_add_25 ?_
    refine pt_12_1 (pc := 26) C u_17_7 dX5_add_26 ?_
    exact v_vret (pc := 29) C hr hlk (by rfl) dX5_add_29
set_option maxHeartbeats 4000000 in
set_option maxRecDepth 100000 in
theorem ct_X5_codeAt (l : Launch) (L : Lay) (g : St) (i : Int) (ht : wt g) (hi : -1000 ≤ i ∧ i ≤ 1000) : Met l yX5_codeAt (.code yX5_codeAt cX5_codeAt 2 (some .int) :: wsL_law) { frames := 0, cells := 0, slots := 0, locals := 0 } (va_Pc [.ref (adr L 12 0 0), .int (iI i)] (HS L g)) (va_Qi (fun (r9 : Int32) (u9 : St) => r9 = iI (cdA g i) ∧ u9 = g) (fun u t => HS L u t) (Af L)) 0 0 (Af L) := by
  refine ct_mk (by decide +kernel) (Nat.le_of_ble_eq_true rfl) ?_
  intro pp ee ss mm bel mth cx C hr hlk
  show V pp l ee { frames := 0, cells := 0, slots := 0, locals := 0 } ss mm ([.ref (adr L 12 0 0), .int (iI i)]).toArray bel mth cx 2 L (HH L g) 0 0 _ 0 [(0, .ref (adr L 12 0 0)), (1, .int (iI i))] []
  obtain ⟨hL, hC⟩ := id ht
  refine v_iload_n (pc := 0) C 1 rfl rfl dX5_codeAt_0 ?_
  refine v_if_lt (pc := 1) C 21 ⟨by (first | assumption | omega | (simp [bl, up] <;> omega)), by (first | assumption | omega | (simp [bl, up] <;> omega))⟩ (by decide) dX5_codeAt_1 (fun h1 => ?_) (fun h1 => ?_)
  · skip
    refine v_iconst (pc := 21) C dX5_codeAt_21 ?_
    exact v_iret (pc := 22) C hr hlk (⟨congrArg iI (by unfold cdA; grind), rfl⟩) dX5_codeAt_22
  · skip
    refine v_iload_n (pc := 4) C 1 rfl rfl dX5_codeAt_4 ?_
    refine v_aload_n (pc := 5) C 0 rfl rfl dX5_codeAt_5 ?_
    refine gt_12_1 (pc := 6) C u_17_7 dX5_codeAt_6 (g 12 0 0 1) (rfl) ?_
    refine v_icmp_ge (pc := 9) C 21 ⟨by (first | assumption | omega | (simp [bl, up] <;> omega)), by (first | assumption | omega | (simp [bl, up] <;> omega))⟩ ⟨by (first | assumption | omega | (simp [bl, up] <;> omega)), by (first | assumption | omega | (simp [bl, up] <;> omega))⟩ (by decide) dX5_codeAt_9 (fun h9 => ?_) (fun h9 => ?_)
    · skip
      refine v_iconst (pc := 21) C dX5_codeAt_21 ?_
      exact v_iret (pc := 22) C hr hlk (⟨congrArg iI (by unfold cdA; grind), rfl⟩) dX5_codeAt_22
    · skip
      refine v_aload_n (pc := 12) C 0 rfl rfl dX5_codeAt_12 ?_
      refine gt_12_0 (pc := 13) C u_3_23 dX5_codeAt_13 ?_
      refine v_iload_n (pc := 16) C 1 rfl rfl dX5_codeAt_16 ?_
      refine al_13 (pc := 17) C ⟨by (first | assumption | omega | (simp [bl, up] <;> omega)), by (first | assumption | omega | (simp [bl, up] <;> omega))⟩ dX5_codeAt_17 (g 13 0 0 i) (rfl) ?_
      refine v_goto (pc := 18) C 22 (by decide) dX5_codeAt_18 ?_
      exact v_iret (pc := 22) C hr hlk (⟨congrArg iI (by unfold cdA; grind), rfl⟩) dX5_codeAt_22
set_option maxHeartbeats 4000000 in
set_option maxRecDepth 100000 in
theorem ct_X5_stateAfterStart (l : Launch) (L : Lay) (g : St) (a : Int) (ha : rg a) : Met l yX5_stateAfterStart (.code yX5_stateAfterStart cX5_stateAfterStart 1 (some .int) :: wsL_law) { frames := 0, cells := 0, slots := 0, locals := 0 } (va_Pc [.int (iI a)] (HS L g)) (va_Qi (fun (r9 : Int32) (u9 : St) => r9 = iI (saS a) ∧ u9 = g) (fun u t => HS L u t) (Af L)) 0 0 (Af L) := by
  refine ct_mk (by decide +kernel) (Nat.le_of_ble_eq_true rfl) ?_
  intro pp ee ss mm bel mth cx C hr hlk
  show V pp l ee { frames := 0, cells := 0, slots := 0, locals := 0 } ss mm ([.int (iI a)]).toArray bel mth cx 1 L (HH L g) 0 0 _ 0 [(0, .int (iI a))] []
  unfold rg at ha
  refine v_iload_n (pc := 0) C 0 rfl rfl dX5_stateAfterStart_0 ?_
  by_cases h1_99 : a = 99
  · skip
    refine v_lookup (pc := 1) (o := 35) C 36 ⟨by (first | assumption | omega | (simp [bl, up] <;> omega)), by (first | assumption | omega | (simp [bl, up] <;> omega))⟩ (by decide +kernel) (by rw [h1_99]; decide +kernel) (by decide) dX5_stateAfterStart_1 ?_
    refine v_iconst (pc := 36) C dX5_stateAfterStart_36 ?_
    exact v_iret (pc := 37) C hr hlk (⟨congrArg iI (by unfold saS; grind), rfl⟩) dX5_stateAfterStart_37
  by_cases h1_109 : a = 109
  · skip
    refine v_lookup (pc := 1) (o := 37) C 38 ⟨by (first | assumption | omega | (simp [bl, up] <;> omega)), by (first | assumption | omega | (simp [bl, up] <;> omega))⟩ (by decide +kernel) (by rw [h1_109]; decide +kernel) (by decide) dX5_stateAfterStart_1 ?_
    refine v_iconst (pc := 38) C dX5_stateAfterStart_38 ?_
    exact v_iret (pc := 39) C hr hlk (⟨congrArg iI (by unfold saS; grind), rfl⟩) dX5_stateAfterStart_39
  by_cases h1_116 : a = 116
  · skip
    refine v_lookup (pc := 1) (o := 39) C 40 ⟨by (first | assumption | omega | (simp [bl, up] <;> omega)), by (first | assumption | omega | (simp [bl, up] <;> omega))⟩ (by decide +kernel) (by rw [h1_116]; decide +kernel) (by decide) dX5_stateAfterStart_1 ?_
    refine v_bipush (pc := 40) C rfl dX5_stateAfterStart_40 ?_
    exact v_iret (pc := 42) C hr hlk (⟨congrArg iI (by unfold saS; grind), rfl⟩) dX5_stateAfterStart_42
  refine v_lookup (pc := 1) (o := 42) C 43 ⟨by (first | assumption | omega | (simp [bl, up] <;> omega)), by (first | assumption | omega | (simp [bl, up] <;> omega))⟩ (by decide +kernel) (by simp [Op.lookupswitch.offset, h1_99, h1_109, h1_116, Ne.symm h1_99, Ne.symm h1_109, Ne.symm h1_116]) (by decide) dX5_stateAfterStart_1 ?_
  refine v_iconst (pc := 43) C dX5_stateAfterStart_43 ?_
  exact v_iret (pc := 44) C hr hlk (⟨congrArg iI (by unfold saS; grind), rfl⟩) dX5_stateAfterStart_44
set_option maxHeartbeats 4000000 in
set_option maxRecDepth 100000 in
theorem ct_X5_stateAfterOrder (l : Launch) (L : Lay) (g : St) (a : Int) (ha : rg a) : Met l yX5_stateAfterOrder (.code yX5_stateAfterOrder cX5_stateAfterOrder 1 (some .int) :: wsL_law) { frames := 0, cells := 0, slots := 0, locals := 0 } (va_Pc [.int (iI a)] (HS L g)) (va_Qi (fun (r9 : Int32) (u9 : St) => r9 = iI (saO a) ∧ u9 = g) (fun u t => HS L u t) (Af L)) 0 0 (Af L) := by
  refine ct_mk (by decide +kernel) (Nat.le_of_ble_eq_true rfl) ?_
  intro pp ee ss mm bel mth cx C hr hlk
  show V pp l ee { frames := 0, cells := 0, slots := 0, locals := 0 } ss mm ([.int (iI a)]).toArray bel mth cx 1 L (HH L g) 0 0 _ 0 [(0, .int (iI a))] []
  unfold rg at ha
  refine v_iload_n (pc := 0) C 0 rfl rfl dX5_stateAfterOrder_0 ?_
  refine v_bipush (pc := 1) C rfl dX5_stateAfterOrder_1 ?_
  refine v_icmp_ne (pc := 3) C 10 ⟨by (first | assumption | omega | (simp [bl, up] <;> omega)), by (first | assumption | omega | (simp [bl, up] <;> omega))⟩ ⟨by (first | assumption | omega | (simp [bl, up] <;> omega)), by (first | assumption | omega | (simp [bl, up] <;> omega))⟩ (by decide) dX5_stateAfterOrder_3 (fun h3 => ?_) (fun h3 => ?_)
  · skip
    refine v_iconst (pc := 10) C dX5_stateAfterOrder_10 ?_
    exact v_iret (pc := 11) C hr hlk (⟨congrArg iI (by unfold saO; grind), rfl⟩) dX5_stateAfterOrder_11
  · skip
    refine v_iconst (pc := 6) C dX5_stateAfterOrder_6 ?_
    refine v_goto (pc := 7) C 11 (by decide) dX5_stateAfterOrder_7 ?_
    exact v_iret (pc := 11) C hr hlk (⟨congrArg iI (by unfold saO; grind), rfl⟩) dX5_stateAfterOrder_11
set_option maxHeartbeats 4000000 in
set_option maxRecDepth 100000 in
theorem ct_X5_isPlayer (l : Launch) (L : Lay) (g : St) (a : Int) (ha : rg a) : Met l yX5_isPlayer (.code yX5_isPlayer cX5_isPlayer 1 (some .boolean) :: wsL_law) { frames := 0, cells := 0, slots := 0, locals := 0 } (va_Pc [.int (iI a)] (HS L g)) (va_Qi (fun (r9 : Int32) (u9 : St) => r9 = iI (if isPl a then 1 else 0) ∧ u9 = g) (fun u t => HS L u t) (Af L)) 0 0 (Af L) := by
  refine ct_mk (by decide +kernel) (Nat.le_of_ble_eq_true rfl) ?_
  intro pp ee ss mm bel mth cx C hr hlk
  show V pp l ee { frames := 0, cells := 0, slots := 0, locals := 0 } ss mm ([.int (iI a)]).toArray bel mth cx 1 L (HH L g) 0 0 _ 0 [(0, .int (iI a))] []
  unfold rg at ha
  refine v_iload_n (pc := 0) C 0 rfl rfl dX5_isPlayer_0 ?_
  refine v_bipush (pc := 1) C rfl dX5_isPlayer_1 ?_
  refine v_icmp_lt (pc := 3) C 16 ⟨by (first | assumption | omega | (simp [bl, up] <;> omega)), by (first | assumption | omega | (simp [bl, up] <;> omega))⟩ ⟨by (first | assumption | omega | (simp [bl, up] <;> omega)), by (first | assumption | omega | (simp [bl, up] <;> omega))⟩ (by decide) dX5_isPlayer_3 (fun h3 => ?_) (fun h3 => ?_)
  · skip
    refine v_iconst (pc := 16) C dX5_isPlayer_16 ?_
    exact v_zret (pc := 17) C hr hlk (by first | assumption | omega | (simp [bl, up] <;> omega)) (⟨congrArg iI (by unfold isPl; grind), rfl⟩) dX5_isPlayer_17
  · skip
    refine v_iload_n (pc := 6) C 0 rfl rfl dX5_isPlayer_6 ?_
    refine v_bipush (pc := 7) C rfl dX5_isPlayer_7 ?_
    refine v_icmp_ge (pc := 9) C 16 ⟨by (first | assumption | omega | (simp [bl, up] <;> omega)), by (first | assumption | omega | (simp [bl, up] <;> omega))⟩ ⟨by (first | assumption | omega | (simp [bl, up] <;> omega)), by (first | assumption | omega | (simp [bl, up] <;> omega))⟩ (by decide) dX5_isPlayer_9 (fun h9 => ?_) (fun h9 => ?_)
    · skip
      refine v_iconst (pc := 16) C dX5_isPlayer_16 ?_
      exact v_zret (pc := 17) C hr hlk (by first | assumption | omega | (simp [bl, up] <;> omega)) (⟨congrArg iI (by unfold isPl; grind), rfl⟩) dX5_isPlayer_17
    · skip
      refine v_iconst (pc := 12) C dX5_isPlayer_12 ?_
      refine v_goto (pc := 13) C 17 (by decide) dX5_isPlayer_13 ?_
      exact v_zret (pc := 17) C hr hlk (by first | assumption | omega | (simp [bl, up] <;> omega)) (⟨congrArg iI (by unfold isPl; grind), rfl⟩) dX5_isPlayer_17
set_option maxHeartbeats 4000000 in
set_option maxRecDepth 100000 in
theorem ct_X5_isDigit (l : Launch) (L : Lay) (g : St) (a : Int) (ha : rg a) : Met l yX5_isDigit (.code yX5_isDigit cX5_isDigit 1 (some .boolean) :: wsL_law) { frames := 0, cells := 0, slots := 0, locals := 0 } (va_Pc [.int (iI a)] (HS L g)) (va_Qi (fun (r9 : Int32) (u9 : St) => r9 = iI (if isDg a then 1 else 0) ∧ u9 = g) (fun u t => HS L u t) (Af L)) 0 0 (Af L) := by
  refine ct_mk (by decide +kernel) (Nat.le_of_ble_eq_true rfl) ?_
  intro pp ee ss mm bel mth cx C hr hlk
  show V pp l ee { frames := 0, cells := 0, slots := 0, locals := 0 } ss mm ([.int (iI a)]).toArray bel mth cx 1 L (HH L g) 0 0 _ 0 [(0, .int (iI a))] []
  unfold rg at ha
  refine v_iload_n (pc := 0) C 0 rfl rfl dX5_isDigit_0 ?_
  refine v_bipush (pc := 1) C rfl dX5_isDigit_1 ?_
  refine v_icmp_lt (pc := 3) C 16 ⟨by (first | assumption | omega | (simp [bl, up] <;> omega)), by (first | assumption | omega | (simp [bl, up] <;> omega))⟩ ⟨by (first | assumption | omega | (simp [bl, up] <;> omega)), by (first | assumption | omega | (simp [bl, up] <;> omega))⟩ (by decide) dX5_isDigit_3 (fun h3 => ?_) (fun h3 => ?_)
  · skip
    refine v_iconst (pc := 16) C dX5_isDigit_16 ?_
    exact v_zret (pc := 17) C hr hlk (by first | assumption | omega | (simp [bl, up] <;> omega)) (⟨congrArg iI (by unfold isDg; grind), rfl⟩) dX5_isDigit_17
  · skip
    refine v_iload_n (pc := 6) C 0 rfl rfl dX5_isDigit_6 ?_
    refine v_bipush (pc := 7) C rfl dX5_isDigit_7 ?_
    refine v_icmp_gt (pc := 9) C 16 ⟨by (first | assumption | omega | (simp [bl, up] <;> omega)), by (first | assumption | omega | (simp [bl, up] <;> omega))⟩ ⟨by (first | assumption | omega | (simp [bl, up] <;> omega)), by (first | assumption | omega | (simp [bl, up] <;> omega))⟩ (by decide) dX5_isDigit_9 (fun h9 => ?_) (fun h9 => ?_)
    · skip
      refine v_iconst (pc := 16) C dX5_isDigit_16 ?_
      exact v_zret (pc := 17) C hr hlk (by first | assumption | omega | (simp [bl, up] <;> omega)) (⟨congrArg iI (by unfold isDg; grind), rfl⟩) dX5_isDigit_17
    · skip
      refine v_iconst (pc := 12) C dX5_isDigit_12 ?_
      refine v_goto (pc := 13) C 17 (by decide) dX5_isDigit_13 ?_
      exact v_zret (pc := 17) C hr hlk (by first | assumption | omega | (simp [bl, up] <;> omega)) (⟨congrArg iI (by unfold isDg; grind), rfl⟩) dX5_isDigit_17
set_option maxHeartbeats 4000000 in
set_option maxRecDepth 100000 in
theorem ct_X5_stateAfter (l : Launch) (L : Lay) (g : St) (b a : Int) (hb : -1 ≤ b ∧ b ≤ 9) (ha : rg a) : Met l yX5_stateAfter (.code yX5_stateAfter cX5_stateAfter 2 (some .int) :: wsL_law) { frames := 1, cells := 0, slots := 0, locals := 20 } (va_Pc [.int (iI b), .int (iI a)] (HS L g)) (va_Qi (fun (r9 : Int32) (u9 : St) => r9 = iI (stA b a) ∧ u9 = g) (fun u t => HS L u t) (Af L)) 0 0 (Af L) := by
  refine ct_mk (by decide +kernel) (Nat.le_of_ble_eq_true rfl) ?_
  intro pp ee ss mm bel mth cx C hr hlk
  show V pp l ee { frames := 1, cells := 0, slots := 0, locals := 20 } ss mm ([.int (iI b), .int (iI a)]).toArray bel mth cx 2 L (HH L g) 0 0 _ 0 [(0, .int (iI b)), (1, .int (iI a))] []
  unfold rg at ha
  refine v_iload_n (pc := 0) C 0 rfl rfl dX5_stateAfter_0 ?_
  by_cases h1_0 : b = 0
  · skip
    refine v_tableIn (pc := 1) (o := 55) C 56 ⟨by (first | assumption | omega | (split <;> omega)), by (first | assumption | omega | (split <;> omega))⟩ (by (first | assumption | omega | (split <;> omega))) (by (first | assumption | omega | (split <;> omega))) (by rw [h1_0]; rfl) (by decide) dX5_stateAfter_1 ?_
    refine v_iload_n (pc := 56) C 1 rfl rfl dX5_stateAfter_56 ?_
    refine v_calliS (pc := 57) C cw_RX5_23 (ct_X5_stateAfterStart l L g a (by unfold rg; omega)) ⟨Nat.le_of_ble_eq_true rfl, Nat.le_of_ble_eq_true rfl⟩ rfl (Nat.le_of_ble_eq_true rfl) ⟨Nat.le_of_ble_eq_true rfl, Nat.le_of_ble_eq_true rfl⟩ rfl dX5_stateAfter_57 (fun r9 u9 hP_1 => ?_)
    obtain ⟨hP_1, hP_1b⟩ := hP_1
    rw [hP_1, hP_1b]
    clear hP_1 hP_1b r9 u9
    exact v_iret (pc := 60) C hr hlk (⟨congrArg iI (by unfold stA; grind), rfl⟩) dX5_stateAfter_60
  by_cases h1_1 : b = 1
  · skip
    refine v_tableIn (pc := 1) (o := 60) C 61 ⟨by (first | assumption | omega | (split <;> omega)), by (first | assumption | omega | (split <;> omega))⟩ (by (first | assumption | omega | (split <;> omega))) (by (first | assumption | omega | (split <;> omega))) (by rw [h1_1]; rfl) (by decide) dX5_stateAfter_1 ?_
    refine v_iload_n (pc := 61) C 1 rfl rfl dX5_stateAfter_61 ?_
    refine v_calliS (pc := 62) C cw_RX5_27 (ct_X5_isPlayer l L g a (by unfold rg; omega)) ⟨Nat.le_of_ble_eq_true rfl, Nat.le_of_ble_eq_true rfl⟩ rfl (Nat.le_of_ble_eq_true rfl) ⟨Nat.le_of_ble_eq_true rfl, Nat.le_of_ble_eq_true rfl⟩ rfl dX5_stateAfter_62 (fun r9 u9 hP_2 => ?_)
    obtain ⟨hP_2, hP_2b⟩ := hP_2
    rw [hP_2, hP_2b]
    clear hP_2 hP_2b r9 u9
    refine v_if_eq (pc := 65) C 72 ⟨by (first | assumption | omega | (split <;> omega)), by (first | assumption | omega | (split <;> omega))⟩ (by decide) dX5_stateAfter_65 (fun h65 => ?_) (fun h65 => ?_)
    · skip
      refine v_iconst (pc := 72) C dX5_stateAfter_72 ?_
      exact v_iret (pc := 73) C hr hlk (⟨congrArg iI (by unfold stA; grind), rfl⟩) dX5_stateAfter_73
    · skip
      refine v_iconst (pc := 68) C dX5_stateAfter_68 ?_
      refine v_goto (pc := 69) C 73 (by decide) dX5_stateAfter_69 ?_
      exact v_iret (pc := 73) C hr hlk (⟨congrArg iI (by unfold stA; grind), rfl⟩) dX5_stateAfter_73
  by_cases h1_2 : b = 2
  · skip
    refine v_tableIn (pc := 1) (o := 73) C 74 ⟨by (first | assumption | omega | (split <;> omega)), by (first | assumption | omega | (split <;> omega))⟩ (by (first | assumption | omega | (split <;> omega))) (by (first | assumption | omega | (split <;> omega))) (by rw [h1_2]; rfl) (by decide) dX5_stateAfter_1 ?_
    refine v_iload_n (pc := 74) C 1 rfl rfl dX5_stateAfter_74 ?_
    refine v_bipush (pc := 75) C rfl dX5_stateAfter_75 ?_
    refine v_icmp_ne (pc := 77) C 84 ⟨by (first | assumption | omega | (split <;> omega)), by (first | assumption | omega | (split <;> omega))⟩ ⟨by (first | assumption | omega | (split <;> omega)), by (first | assumption | omega | (split <;> omega))⟩ (by decide) dX5_stateAfter_77 (fun h77 => ?_) (fun h77 => ?_)
    · skip
      refine v_iconst (pc := 84) C dX5_stateAfter_84 ?_
      exact v_iret (pc := 85) C hr hlk (⟨congrArg iI (by unfold stA; grind), rfl⟩) dX5_stateAfter_85
    · skip
      refine v_iconst (pc := 80) C dX5_stateAfter_80 ?_
      refine v_goto (pc := 81) C 85 (by decide) dX5_stateAfter_81 ?_
      exact v_iret (pc := 85) C hr hlk (⟨congrArg iI (by unfold stA; grind), rfl⟩) dX5_stateAfter_85
  by_cases h1_3 : b = 3
  · skip
    refine v_tableIn (pc := 1) (o := 85) C 86 ⟨by (first | assumption | omega | (split <;> omega)), by (first | assumption | omega | (split <;> omega))⟩ (by (first | assumption | omega | (split <;> omega))) (by (first | assumption | omega | (split <;> omega))) (by rw [h1_3]; rfl) (by decide) dX5_stateAfter_1 ?_
    refine v_iload_n (pc := 86) C 1 rfl rfl dX5_stateAfter_86 ?_
    refine v_calliS (pc := 87) C cw_RX5_31 (ct_X5_isDigit l L g a (by unfold rg; omega)) ⟨Nat.le_of_ble_eq_true rfl, Nat.le_of_ble_eq_true rfl⟩ rfl (Nat.le_of_ble_eq_true rfl) ⟨Nat.le_of_ble_eq_true rfl, Nat.le_of_ble_eq_true rfl⟩ rfl dX5_stateAfter_87 (fun r9 u9 hP_3 => ?_)
    obtain ⟨hP_3, hP_3b⟩ := hP_3
    rw [hP_3, hP_3b]
    clear hP_3 hP_3b r9 u9
    refine v_if_eq (pc := 90) C 98 ⟨by (first | assumption | omega | (split <;> omega)), by (first | assumption | omega | (split <;> omega))⟩ (by decide) dX5_stateAfter_90 (fun h90 => ?_) (fun h90 => ?_)
    · skip
      refine v_iconst (pc := 98) C dX5_stateAfter_98 ?_
      exact v_iret (pc := 99) C hr hlk (⟨congrArg iI (by unfold stA; grind), rfl⟩) dX5_stateAfter_99
    · skip
      refine v_bipush (pc := 93) C rfl dX5_stateAfter_93 ?_
      refine v_goto (pc := 95) C 99 (by decide) dX5_stateAfter_95 ?_
      exact v_iret (pc := 99) C hr hlk (⟨congrArg iI (by unfold stA; grind), rfl⟩) dX5_stateAfter_99
  by_cases h1_4 : b = 4
  · skip
    refine v_tableIn (pc := 1) (o := 99) C 100 ⟨by (first | assumption | omega | (split <;> omega)), by (first | assumption | omega | (split <;> omega))⟩ (by (first | assumption | omega | (split <;> omega))) (by (first | assumption | omega | (split <;> omega))) (by rw [h1_4]; rfl) (by decide) dX5_stateAfter_1 ?_
    refine v_iload_n (pc := 100) C 1 rfl rfl dX5_stateAfter_100 ?_
    refine v_calliS (pc := 101) C cw_RX5_27 (ct_X5_isPlayer l L g a (by unfold rg; omega)) ⟨Nat.le_of_ble_eq_true rfl, Nat.le_of_ble_eq_true rfl⟩ rfl (Nat.le_of_ble_eq_true rfl) ⟨Nat.le_of_ble_eq_true rfl, Nat.le_of_ble_eq_true rfl⟩ rfl dX5_stateAfter_101 (fun r9 u9 hP_4 => ?_)
    obtain ⟨hP_4, hP_4b⟩ := hP_4
    rw [hP_4, hP_4b]
    clear hP_4 hP_4b r9 u9
    refine v_if_eq (pc := 104) C 111 ⟨by (first | assumption | omega | (split <;> omega)), by (first | assumption | omega | (split <;> omega))⟩ (by decide) dX5_stateAfter_104 (fun h104 => ?_) (fun h104 => ?_)
    · skip
      refine v_iconst (pc := 111) C dX5_stateAfter_111 ?_
      exact v_iret (pc := 112) C hr hlk (⟨congrArg iI (by unfold stA; grind), rfl⟩) dX5_stateAfter_112
    · skip
      refine v_iconst (pc := 107) C dX5_stateAfter_107 ?_
      refine v_goto (pc := 108) C 112 (by decide) dX5_stateAfter_108 ?_
      exact v_iret (pc := 112) C hr hlk (⟨congrArg iI (by unfold stA; grind), rfl⟩) dX5_stateAfter_112
  by_cases h1_5 : b = 5
  · skip
    refine v_tableIn (pc := 1) (o := 112) C 113 ⟨by (first | assumption | omega | (split <;> omega)), by (first | assumption | omega | (split <;> omega))⟩ (by (first | assumption | omega | (split <;> omega))) (by (first | assumption | omega | (split <;> omega))) (by rw [h1_5]; rfl) (by decide) dX5_stateAfter_1 ?_
    refine v_iload_n (pc := 113) C 1 rfl rfl dX5_stateAfter_113 ?_
    refine v_bipush (pc := 114) C rfl dX5_stateAfter_114 ?_
    refine v_icmp_eq (pc := 116) C 125 ⟨by (first | assumption | omega | (split <;> omega)), by (first | assumption | omega | (split <;> omega))⟩ ⟨by (first | assumption | omega | (split <;> omega)), by (first | assumption | omega | (split <;> omega))⟩ (by decide) dX5_stateAfter_116 (fun h116 => ?_) (fun h116 => ?_)
    · skip
      refine v_bipush (pc := 125) C rfl dX5_stateAfter_125 ?_
      refine v_goto (pc := 127) C 131 (by decide) dX5_stateAfter_127 ?_
      exact v_iret (pc := 131) C hr hlk (⟨congrArg iI (by unfold stA; grind), rfl⟩) dX5_stateAfter_131
    · skip
      refine v_iload_n (pc := 119) C 1 rfl rfl dX5_stateAfter_119 ?_
      refine v_bipush (pc := 120) C rfl dX5_stateAfter_120 ?_
      refine v_icmp_ne (pc := 122) C 130 ⟨by (first | assumption | omega | (split <;> omega)), by (first | assumption | omega | (split <;> omega))⟩ ⟨by (first | assumption | omega | (split <;> omega)), by (first | assumption | omega | (split <;> omega))⟩ (by decide) dX5_stateAfter_122 (fun h122 => ?_) (fun h122 => ?_)
      · skip
        refine v_iconst (pc := 130) C dX5_stateAfter_130 ?_
        exact v_iret (pc := 131) C hr hlk (⟨congrArg iI (by unfold stA; grind), rfl⟩) dX5_stateAfter_131
      · skip
        refine v_bipush (pc := 125) C rfl dX5_stateAfter_125 ?_
        refine v_goto (pc := 127) C 131 (by decide) dX5_stateAfter_127 ?_
        exact v_iret (pc := 131) C hr hlk (⟨congrArg iI (by unfold stA; grind), rfl⟩) dX5_stateAfter_131
  by_cases h1_6 : b = 6
  · skip
    refine v_tableIn (pc := 1) (o := 131) C 132 ⟨by (first | assumption | omega | (split <;> omega)), by (first | assumption | omega | (split <;> omega))⟩ (by (first | assumption | omega | (split <;> omega))) (by (first | assumption | omega | (split <;> omega))) (by rw [h1_6]; rfl) (by decide) dX5_stateAfter_1 ?_
    refine v_iload_n (pc := 132) C 1 rfl rfl dX5_stateAfter_132 ?_
    refine v_calliS (pc := 133) C cw_RX5_31 (ct_X5_isDigit l L g a (by unfold rg; omega)) ⟨Nat.le_of_ble_eq_true rfl, Nat.le_of_ble_eq_true rfl⟩ rfl (Nat.le_of_ble_eq_true rfl) ⟨Nat.le_of_ble_eq_true rfl, Nat.le_of_ble_eq_true rfl⟩ rfl dX5_stateAfter_133 (fun r9 u9 hP_5 => ?_)
    obtain ⟨hP_5, hP_5b⟩ := hP_5
    rw [hP_5, hP_5b]
    clear hP_5 hP_5b r9 u9
    refine v_if_eq (pc := 136) C 150 ⟨by (first | assumption | omega | (split <;> omega)), by (first | assumption | omega | (split <;> omega))⟩ (by decide) dX5_stateAfter_136 (fun h136 => ?_) (fun h136 => ?_)
    · skip
      refine v_iconst (pc := 150) C dX5_stateAfter_150 ?_
      exact v_iret (pc := 151) C hr hlk (⟨congrArg iI (by unfold stA; grind), rfl⟩) dX5_stateAfter_151
    · skip
      refine v_iload_n (pc := 139) C 1 rfl rfl dX5_stateAfter_139 ?_
      refine v_bipush (pc := 140) C rfl dX5_stateAfter_140 ?_
      refine v_icmp_eq (pc := 142) C 150 ⟨by (first | assumption | omega | (split <;> omega)), by (first | assumption | omega | (split <;> omega))⟩ ⟨by (first | assumption | omega | (split <;> omega)), by (first | assumption | omega | (split <;> omega))⟩ (by decide) dX5_stateAfter_142 (fun h142 => ?_) (fun h142 => ?_)
      · skip
        refine v_iconst (pc := 150) C dX5_stateAfter_150 ?_
        exact v_iret (pc := 151) C hr hlk (⟨congrArg iI (by unfold stA; grind), rfl⟩) dX5_stateAfter_151
      · skip
        refine v_bipush (pc := 145) C rfl dX5_stateAfter_145 ?_
        refine v_goto (pc := 147) C 151 (by decide) dX5_stateAfter_147 ?_
        exact v_iret (pc := 151) C hr hlk (⟨congrArg iI (by unfold stA; grind), rfl⟩) dX5_stateAfter_151
  by_cases h1_7 : b = 7
  · skip
    refine v_tableIn (pc := 1) (o := 151) C 152 ⟨by (first | assumption | omega | (split <;> omega)), by (first | assumption | omega | (split <;> omega))⟩ (by (first | assumption | omega | (split <;> omega))) (by (first | assumption | omega | (split <;> omega))) (by rw [h1_7]; rfl) (by decide) dX5_stateAfter_1 ?_
    refine v_iload_n (pc := 152) C 1 rfl rfl dX5_stateAfter_152 ?_
    refine v_calliS (pc := 153) C cw_RX5_31 (ct_X5_isDigit l L g a (by unfold rg; omega)) ⟨Nat.le_of_ble_eq_true rfl, Nat.le_of_ble_eq_true rfl⟩ rfl (Nat.le_of_ble_eq_true rfl) ⟨Nat.le_of_ble_eq_true rfl, Nat.le_of_ble_eq_true rfl⟩ rfl dX5_stateAfter_153 (fun r9 u9 hP_6 => ?_)
    obtain ⟨hP_6, hP_6b⟩ := hP_6
    rw [hP_6, hP_6b]
    clear hP_6 hP_6b r9 u9
    refine v_if_eq (pc := 156) C 170 ⟨by (first | assumption | omega | (split <;> omega)), by (first | assumption | omega | (split <;> omega))⟩ (by decide) dX5_stateAfter_156 (fun h156 => ?_) (fun h156 => ?_)
    · skip
      refine v_iconst (pc := 170) C dX5_stateAfter_170 ?_
      exact v_iret (pc := 171) C hr hlk (⟨congrArg iI (by unfold stA; grind), rfl⟩) dX5_stateAfter_171
    · skip
      refine v_iload_n (pc := 159) C 1 rfl rfl dX5_stateAfter_159 ?_
      refine v_bipush (pc := 160) C rfl dX5_stateAfter_160 ?_
      refine v_icmp_eq (pc := 162) C 170 ⟨by (first | assumption | omega | (split <;> omega)), by (first | assumption | omega | (split <;> omega))⟩ ⟨by (first | assumption | omega | (split <;> omega)), by (first | assumption | omega | (split <;> omega))⟩ (by decide) dX5_stateAfter_162 (fun h162 => ?_) (fun h162 => ?_)
      · skip
        refine v_iconst (pc := 170) C dX5_stateAfter_170 ?_
        exact v_iret (pc := 171) C hr hlk (⟨congrArg iI (by unfold stA; grind), rfl⟩) dX5_stateAfter_171
      · skip
        refine v_bipush (pc := 165) C rfl dX5_stateAfter_165 ?_
        refine v_goto (pc := 167) C 171 (by decide) dX5_stateAfter_167 ?_
        exact v_iret (pc := 171) C hr hlk (⟨congrArg iI (by unfold stA; grind), rfl⟩) dX5_stateAfter_171
  by_cases h1_8 : b = 8
  · skip
    refine v_tableIn (pc := 1) (o := 171) C 172 ⟨by (first | assumption | omega | (split <;> omega)), by (first | assumption | omega | (split <;> omega))⟩ (by (first | assumption | omega | (split <;> omega))) (by (first | assumption | omega | (split <;> omega))) (by rw [h1_8]; rfl) (by decide) dX5_stateAfter_1 ?_
    refine v_iload_n (pc := 172) C 1 rfl rfl dX5_stateAfter_172 ?_
    refine v_calliS (pc := 173) C cw_RX5_31 (ct_X5_isDigit l L g a (by unfold rg; omega)) ⟨Nat.le_of_ble_eq_true rfl, Nat.le_of_ble_eq_true rfl⟩ rfl (Nat.le_of_ble_eq_true rfl) ⟨Nat.le_of_ble_eq_true rfl, Nat.le_of_ble_eq_true rfl⟩ rfl dX5_stateAfter_173 (fun r9 u9 hP_7 => ?_)
    obtain ⟨hP_7, hP_7b⟩ := hP_7
    rw [hP_7, hP_7b]
    clear hP_7 hP_7b r9 u9
    refine v_if_eq (pc := 176) C 184 ⟨by (first | assumption | omega | (split <;> omega)), by (first | assumption | omega | (split <;> omega))⟩ (by decide) dX5_stateAfter_176 (fun h176 => ?_) (fun h176 => ?_)
    · skip
      refine v_iload_n (pc := 184) C 1 rfl rfl dX5_stateAfter_184 ?_
      refine v_calliS (pc := 185) C cw_RX5_34 (ct_X5_stateAfterOrder l L g a (by unfold rg; omega)) ⟨Nat.le_of_ble_eq_true rfl, Nat.le_of_ble_eq_true rfl⟩ rfl (Nat.le_of_ble_eq_true rfl) ⟨Nat.le_of_ble_eq_true rfl, Nat.le_of_ble_eq_true rfl⟩ rfl dX5_stateAfter_185 (fun r9 u9 hP_8 => ?_)
      obtain ⟨hP_8, hP_8b⟩ := hP_8
      rw [hP_8, hP_8b]
      clear hP_8 hP_8b r9 u9
      exact v_iret (pc := 188) C hr hlk (⟨congrArg iI (by unfold stA; grind), rfl⟩) dX5_stateAfter_188
    · skip
      refine v_bipush (pc := 179) C rfl dX5_stateAfter_179 ?_
      refine v_goto (pc := 181) C 188 (by decide) dX5_stateAfter_181 ?_
      exact v_iret (pc := 188) C hr hlk (⟨congrArg iI (by unfold stA; grind), rfl⟩) dX5_stateAfter_188
  by_cases h1_9 : b = 9
  · skip
    refine v_tableIn (pc := 1) (o := 188) C 189 ⟨by (first | assumption | omega | (split <;> omega)), by (first | assumption | omega | (split <;> omega))⟩ (by (first | assumption | omega | (split <;> omega))) (by (first | assumption | omega | (split <;> omega))) (by rw [h1_9]; rfl) (by decide) dX5_stateAfter_1 ?_
    refine v_iload_n (pc := 189) C 1 rfl rfl dX5_stateAfter_189 ?_
    refine v_calliS (pc := 190) C cw_RX5_34 (ct_X5_stateAfterOrder l L g a (by unfold rg; omega)) ⟨Nat.le_of_ble_eq_true rfl, Nat.le_of_ble_eq_true rfl⟩ rfl (Nat.le_of_ble_eq_true rfl) ⟨Nat.le_of_ble_eq_true rfl, Nat.le_of_ble_eq_true rfl⟩ rfl dX5_stateAfter_190 (fun r9 u9 hP_9 => ?_)
    obtain ⟨hP_9, hP_9b⟩ := hP_9
    rw [hP_9, hP_9b]
    clear hP_9 hP_9b r9 u9
    exact v_iret (pc := 193) C hr hlk (⟨congrArg iI (by unfold stA; grind), rfl⟩) dX5_stateAfter_193
  refine v_tableOut (pc := 1) C 194 ⟨by (first | assumption | omega | (split <;> omega)), by (first | assumption | omega | (split <;> omega))⟩ (by (first | assumption | omega | (split <;> omega))) (by decide) dX5_stateAfter_1 ?_
  refine v_iconst (pc := 194) C dX5_stateAfter_194 ?_
  exact v_iret (pc := 195) C hr hlk (⟨congrArg iI (by unfold stA; grind), rfl⟩) dX5_stateAfter_195
set_option maxHeartbeats 4000000 in
set_option maxRecDepth 100000 in
theorem ct_X5_errorIndex (l : Launch) (L : Lay) (g : St) (ht : wt g) : Met l yX5_errorIndex (.code yX5_errorIndex cX5_errorIndex 3 (some .int) :: wsL_law) { frames := 2, cells := 0, slots := 0, locals := 41 } (va_Pc [.ref (adr L 12 0 0)] (HS L g)) (va_Qi (fun (r9 : Int32) (u9 : St) => r9 = iI (erI (g 13 0 0) (g 12 0 0 1)) ∧ u9 = g) (fun u t => HS L u t) (Af L)) 0 0 (Af L) := by
  refine ct_mk (by decide +kernel) (Nat.le_of_ble_eq_true rfl) ?_
  intro pp ee ss mm bel mth cx C hr hlk
  show V pp l ee { frames := 2, cells := 0, slots := 0, locals := 41 } ss mm ([.ref (adr L 12 0 0)]).toArray bel mth cx 3 L (HH L g) 0 0 _ 0 [(0, .ref (adr L 12 0 0))] []
  obtain ⟨hL, hC⟩ := id ht
  refine v_iconst (pc := 0) C dX5_errorIndex_0 ?_
  refine v_istore_n (pc := 1) C [(1, .int (iI 0)), (0, .ref (adr L 12 0 0))] rfl (by decide) rfl dX5_errorIndex_1 ?_
  refine v_iconst (pc := 2) C dX5_errorIndex_2 ?_
  refine v_istore_n (pc := 3) C [(2, .int (iI 0)), (1, .int (iI 0)), (0, .ref (adr L 12 0 0))] rfl (by decide) rfl dX5_errorIndex_3 ?_
  have lb4 : ∀ (n9 : Nat) (i : Int) (q : Int), (0 ≤ i ∧ i ≤ g 12 0 0 1) → (q = stN (g 13 0 0) i.toNat) → (frst (pEr (g 13 0 0)) (g 12 0 0 1).toNat 0 = frst (pEr (g 13 0 0)) (g 12 0 0 1 - i).toNat i) → (g 12 0 0 1 - i).toNat < n9 → V pp l ee { frames := 2, cells := 0, slots := 0, locals := 41 } ss mm ([.ref (adr L 12 0 0)]).toArray bel mth cx 3 L (HH L g) 0 0 (MQ bel (va_Qi (fun (r9 : Int32) (u9 : St) => r9 = iI (erI (g 13 0 0) (g 12 0 0 1)) ∧ u9 = g) (fun u t => HS L u t) (Af L)) ([.ref (adr L 12 0 0)]).toArray ss 0 0 (Af L)) 4 [(0, .ref (adr L 12 0 0)), (1, .int (iI q)), (2, .int (iI i))] [] := by
    intro n9
    induction n9 with
    | zero => intro i q hi hq hc hm9; exact absurd hm9 (Nat.not_lt_zero _)
    | succ n9 ih9 =>
      intro i q hi hq hc hm9
      have ih4 := ih9
      refine v_iload_n (pc := 4) C 2 rfl rfl dX5_errorIndex_4 ?_
      refine v_aload_n (pc := 5) C 0 rfl rfl dX5_errorIndex_5 ?_
      refine gt_12_1 (pc := 6) C u_17_7 dX5_errorIndex_6 (g 12 0 0 1) (rfl) ?_
      refine v_icmp_ge (pc := 9) C 36 ⟨by (first | assumption | omega | (simp [bl, up] <;> omega)), by (first | assumption | omega | (simp [bl, up] <;> omega))⟩ ⟨by (first | assumption | omega | (simp [bl, up] <;> omega)), by (first | assumption | omega | (simp [bl, up] <;> omega))⟩ (by decide) dX5_errorIndex_9 (fun h9 => ?_) (fun h9 => ?_)
      · skip
        refine v_aload_n (pc := 36) C 0 rfl rfl dX5_errorIndex_36 ?_
        refine gt_12_1 (pc := 37) C u_17_7 dX5_errorIndex_37 (g 12 0 0 1) (rfl) ?_
        exact v_iret (pc := 40) C hr hlk (⟨congrArg iI (by unfold erI; rw [hc, show g 12 0 0 1 - i = 0 by omega]; rfl), rfl⟩) dX5_errorIndex_40
      · skip
        refine v_iload_n (pc := 12) C 1 rfl rfl dX5_errorIndex_12 ?_
        refine v_aload_n (pc := 13) C 0 rfl rfl dX5_errorIndex_13 ?_
        refine gt_12_0 (pc := 14) C u_3_23 dX5_errorIndex_14 ?_
        refine v_iload_n (pc := 17) C 2 rfl rfl dX5_errorIndex_17 ?_
        refine al_13 (pc := 18) C ⟨by (first | assumption | omega | (simp [bl, up] <;> omega)), by (first | assumption | omega | (simp [bl, up] <;> omega))⟩ dX5_errorIndex_18 (g 13 0 0 i) (rfl) ?_
        have hcc := hC i (by omega) (by omega)
        have hss := stN_in (g 13 0 0) i.toNat
        refine v_calliS (pc := 19) C cw_RX5_19 (ct_X5_stateAfter l L g q (g 13 0 0 i) (by omega) (by unfold rg; omega)) ⟨Nat.le_of_ble_eq_true rfl, Nat.le_of_ble_eq_true rfl⟩ rfl (Nat.le_of_ble_eq_true rfl) ⟨Nat.le_of_ble_eq_true rfl, Nat.le_of_ble_eq_true rfl⟩ rfl dX5_errorIndex_19 (fun r9 u9 hP_1 => ?_)
        obtain ⟨hP_1, hP_1b⟩ := hP_1
        rw [hP_1, hP_1b]
        clear hP_1 hP_1b r9 u9
        refine v_istore_n (pc := 22) C [(1, .int (iI (stA q (g 13 0 0 i)))), (0, .ref (adr L 12 0 0)), (2, .int (iI i))] rfl (by decide) rfl dX5_errorIndex_22 ?_
        have hsn := stA_in q (g 13 0 0 i)
        refine v_iload_n (pc := 23) C 0 rfl rfl dX5_errorIndex_23 ?_
        refine v_iconst (pc := 24) C dX5_errorIndex_24 ?_
        refine v_icmp_ne (pc := 25) C 30 ⟨by (first | assumption | omega | (simp [bl, up] <;> omega)), by (first | assumption | omega | (simp [bl, up] <;> omega))⟩ ⟨by (first | assumption | omega | (simp [bl, up] <;> omega)), by (first | assumption | omega | (simp [bl, up] <;> omega))⟩ (by decide) dX5_errorIndex_25 (fun h25 => ?_) (fun h25 => ?_)
        · skip
          refine v_iinc (pc := 30) C 2 [(2, .int (iI (i + 1))), (1, .int (iI (stA q (g 13 0 0 i)))), (0, .ref (adr L 12 0 0))] rfl (by decide) rfl dX5_errorIndex_30 ?_
          refine v_goto (pc := 33) C 4 (by decide) dX5_errorIndex_33 ?_
          refine v_lsub [2, 1, 0] rfl ?_
          exact ih4 (i + 1) (stA q (g 13 0 0 i)) (by omega) (by rw [hq, stN_s hi.1]) (by rw [hc, frst_s (by omega), if_neg]; simp only [pEr, decide_eq_true_eq]; rw [stN_s hi.1]; rw [hq] at h25; omega) (by omega)
        · skip
          refine v_iload_n (pc := 28) C 2 rfl rfl dX5_errorIndex_28 ?_
          exact v_iret (pc := 29) C hr hlk (⟨congrArg iI (by have hf : pEr (g 13 0 0) i = true := (by simp only [pEr, decide_eq_true_eq]; rw [stN_s hi.1]; rw [hq] at h25; omega); unfold erI; rw [hc, frst_s (by omega), if_pos hf, if_neg (by omega)]), rfl⟩) dX5_errorIndex_29
  refine v_lsub [2, 1, 0] rfl ?_
  exact lb4 _ 0 0 (by omega) (by rfl) (by rw [Int.sub_zero]) (Nat.lt_succ_self _)
set_option maxHeartbeats 4000000 in
set_option maxRecDepth 100000 in
theorem ct_X5_isTurns (l : Launch) (L : Lay) (g : St) (ht : wt g) : Met l yX5_isTurns (.code yX5_isTurns cX5_isTurns 3 (some .boolean) :: wsL_law) { frames := 2, cells := 0, slots := 0, locals := 41 } (va_Pc [.ref (adr L 12 0 0)] (HS L g)) (va_Qi (fun (r9 : Int32) (u9 : St) => r9 = iI (if stN (g 13 0 0) (g 12 0 0 1).toNat = 9 ∨ stN (g 13 0 0) (g 12 0 0 1).toNat = 8 then 1 else 0) ∧ u9 = g) (fun u t => HS L u t) (Af L)) 0 0 (Af L) := by
  refine ct_mk (by decide +kernel) (Nat.le_of_ble_eq_true rfl) ?_
  intro pp ee ss mm bel mth cx C hr hlk
  show V pp l ee { frames := 2, cells := 0, slots := 0, locals := 41 } ss mm ([.ref (adr L 12 0 0)]).toArray bel mth cx 3 L (HH L g) 0 0 _ 0 [(0, .ref (adr L 12 0 0))] []
  obtain ⟨hL, hC⟩ := id ht
  refine v_iconst (pc := 0) C dX5_isTurns_0 ?_
  refine v_istore_n (pc := 1) C [(1, .int (iI 0)), (0, .ref (adr L 12 0 0))] rfl (by decide) rfl dX5_isTurns_1 ?_
  refine v_iconst (pc := 2) C dX5_isTurns_2 ?_
  refine v_istore_n (pc := 3) C [(2, .int (iI 0)), (1, .int (iI 0)), (0, .ref (adr L 12 0 0))] rfl (by decide) rfl dX5_isTurns_3 ?_
  have lb4 : ∀ (n9 : Nat) (i : Int) (q : Int), (0 ≤ i ∧ i ≤ g 12 0 0 1) → (q = stN (g 13 0 0) i.toNat) → (g 12 0 0 1 - i).toNat < n9 → V pp l ee { frames := 2, cells := 0, slots := 0, locals := 41 } ss mm ([.ref (adr L 12 0 0)]).toArray bel mth cx 3 L (HH L g) 0 0 (MQ bel (va_Qi (fun (r9 : Int32) (u9 : St) => r9 = iI (if stN (g 13 0 0) (g 12 0 0 1).toNat = 9 ∨ stN (g 13 0 0) (g 12 0 0 1).toNat = 8 then 1 else 0) ∧ u9 = g) (fun u t => HS L u t) (Af L)) ([.ref (adr L 12 0 0)]).toArray ss 0 0 (Af L)) 4 [(0, .ref (adr L 12 0 0)), (1, .int (iI q)), (2, .int (iI i))] [] := by
    intro n9
    induction n9 with
    | zero => intro i q hi hq hm9; exact absurd hm9 (Nat.not_lt_zero _)
    | succ n9 ih9 =>
      intro i q hi hq hm9
      have ih4 := ih9
      refine v_iload_n (pc := 4) C 2 rfl rfl dX5_isTurns_4 ?_
      refine v_aload_n (pc := 5) C 0 rfl rfl dX5_isTurns_5 ?_
      refine gt_12_1 (pc := 6) C u_17_7 dX5_isTurns_6 (g 12 0 0 1) (rfl) ?_
      refine v_icmp_ge (pc := 9) C 29 ⟨by (first | assumption | omega | (simp [bl, up] <;> omega)), by (first | assumption | omega | (simp [bl, up] <;> omega))⟩ ⟨by (first | assumption | omega | (simp [bl, up] <;> omega)), by (first | assumption | omega | (simp [bl, up] <;> omega))⟩ (by decide) dX5_isTurns_9 (fun h9 => ?_) (fun h9 => ?_)
      · skip
        have hss := stN_in (g 13 0 0) i.toNat
        have hii : i = g 12 0 0 1 := by omega
        refine v_iload_n (pc := 29) C 1 rfl rfl dX5_isTurns_29 ?_
        refine v_bipush (pc := 30) C rfl dX5_isTurns_30 ?_
        refine v_icmp_eq (pc := 32) C 41 ⟨by (first | assumption | omega | (simp [bl, up] <;> omega)), by (first | assumption | omega | (simp [bl, up] <;> omega))⟩ ⟨by (first | assumption | omega | (simp [bl, up] <;> omega)), by (first | assumption | omega | (simp [bl, up] <;> omega))⟩ (by decide) dX5_isTurns_32 (fun h32 => ?_) (fun h32 => ?_)
        · skip
          refine v_iconst (pc := 41) C dX5_isTurns_41 ?_
          refine v_goto (pc := 42) C 46 (by decide) dX5_isTurns_42 ?_
          exact v_zret (pc := 46) C hr hlk (by first | assumption | omega | (simp [bl, up] <;> omega)) (⟨congrArg iI (by rw [← hii, ← hq]; grind), rfl⟩) dX5_isTurns_46
        · skip
          refine v_iload_n (pc := 35) C 1 rfl rfl dX5_isTurns_35 ?_
          refine v_bipush (pc := 36) C rfl dX5_isTurns_36 ?_
          refine v_icmp_ne (pc := 38) C 45 ⟨by (first | assumption | omega | (simp [bl, up] <;> omega)), by (first | assumption | omega | (simp [bl, up] <;> omega))⟩ ⟨by (first | assumption | omega | (simp [bl, up] <;> omega)), by (first | assumption | omega | (simp [bl, up] <;> omega))⟩ (by decide) dX5_isTurns_38 (fun h38 => ?_) (fun h38 => ?_)
          · skip
            refine v_iconst (pc := 45) C dX5_isTurns_45 ?_
            exact v_zret (pc := 46) C hr hlk (by first | assumption | omega | (simp [bl, up] <;> omega)) (⟨congrArg iI (by rw [← hii, ← hq]; grind), rfl⟩) dX5_isTurns_46
          · skip
            refine v_iconst (pc := 41) C dX5_isTurns_41 ?_
            refine v_goto (pc := 42) C 46 (by decide) dX5_isTurns_42 ?_
            exact v_zret (pc := 46) C hr hlk (by first | assumption | omega | (simp [bl, up] <;> omega)) (⟨congrArg iI (by rw [← hii, ← hq]; grind), rfl⟩) dX5_isTurns_46
      · skip
        refine v_iload_n (pc := 12) C 1 rfl rfl dX5_isTurns_12 ?_
        refine v_aload_n (pc := 13) C 0 rfl rfl dX5_isTurns_13 ?_
        refine gt_12_0 (pc := 14) C u_3_23 dX5_isTurns_14 ?_
        refine v_iload_n (pc := 17) C 2 rfl rfl dX5_isTurns_17 ?_
        refine al_13 (pc := 18) C ⟨by (first | assumption | omega | (simp [bl, up] <;> omega)), by (first | assumption | omega | (simp [bl, up] <;> omega))⟩ dX5_isTurns_18 (g 13 0 0 i) (rfl) ?_
        have hcc := hC i (by omega) (by omega)
        have hss := stN_in (g 13 0 0) i.toNat
        refine v_calliS (pc := 19) C cw_RX5_19 (ct_X5_stateAfter l L g q (g 13 0 0 i) (by omega) (by unfold rg; omega)) ⟨Nat.le_of_ble_eq_true rfl, Nat.le_of_ble_eq_true rfl⟩ rfl (Nat.le_of_ble_eq_true rfl) ⟨Nat.le_of_ble_eq_true rfl, Nat.le_of_ble_eq_true rfl⟩ rfl dX5_isTurns_19 (fun r9 u9 hP_1 => ?_)
        obtain ⟨hP_1, hP_1b⟩ := hP_1
        rw [hP_1, hP_1b]
        clear hP_1 hP_1b r9 u9
        refine v_istore_n (pc := 22) C [(1, .int (iI (stA q (g 13 0 0 i)))), (0, .ref (adr L 12 0 0)), (2, .int (iI i))] rfl (by decide) rfl dX5_isTurns_22 ?_
        refine v_iinc (pc := 23) C 2 [(2, .int (iI (i + 1))), (1, .int (iI (stA q (g 13 0 0 i)))), (0, .ref (adr L 12 0 0))] rfl (by decide) rfl dX5_isTurns_23 ?_
        refine v_goto (pc := 26) C 4 (by decide) dX5_isTurns_26 ?_
        refine v_lsub [2, 1, 0] rfl ?_
        exact ih4 (i + 1) (stA q (g 13 0 0 i)) (by omega) (by rw [hq, stN_s hi.1]) (by omega)
  refine v_lsub [2, 1, 0] rfl ?_
  exact lb4 _ 0 0 (by omega) (by rfl) (Nat.lt_succ_self _)
set_option maxHeartbeats 4000000 in
set_option maxRecDepth 100000 in
theorem ct_X5_digitAt (l : Launch) (L : Lay) (g : St) (i : Int) (ht : wt g) (hi : -1000 ≤ i ∧ i ≤ 1000) : Met l yX5_digitAt (.code yX5_digitAt cX5_digitAt 2 (some .int) :: wsL_law) { frames := 1, cells := 0, slots := 0, locals := 21 } (va_Pc [.ref (adr L 12 0 0), .int (iI i)] (HS L g)) (va_Qi (fun (r9 : Int32) (u9 : St) => r9 = iI (cdA g i - 48) ∧ u9 = g) (fun u t => HS L u t) (Af L)) 0 0 (Af L) := by
  refine ct_mk (by decide +kernel) (Nat.le_of_ble_eq_true rfl) ?_
  intro pp ee ss mm bel mth cx C hr hlk
  show V pp l ee { frames := 1, cells := 0, slots := 0, locals := 21 } ss mm ([.ref (adr L 12 0 0), .int (iI i)]).toArray bel mth cx 2 L (HH L g) 0 0 _ 0 [(0, .ref (adr L 12 0 0)), (1, .int (iI i))] []
  obtain ⟨hL, hC⟩ := id ht
  refine v_aload_n (pc := 0) C 0 rfl rfl dX5_digitAt_0 ?_
  refine v_iload_n (pc := 1) C 1 rfl rfl dX5_digitAt_1 ?_
  refine v_calliV (pc := 2) C cw_RX5_37 rcv_12 (ct_X5_codeAt l L g i (by first | assumption | omega | (simp [bl, up] <;> omega)) (by first | assumption | omega | (simp [bl, up] <;> omega))) ⟨Nat.le_of_ble_eq_true rfl, Nat.le_of_ble_eq_true rfl⟩ rfl (Nat.le_of_ble_eq_true rfl) ⟨Nat.le_of_ble_eq_true rfl, Nat.le_of_ble_eq_true rfl⟩ rfl dX5_digitAt_2 (fun r9 u9 hP_1 => ?_)
  obtain ⟨hP_1, hP_1b⟩ := hP_1
  rw [hP_1, hP_1b]
  clear hP_1 hP_1b r9 u9
  refine v_bipush (pc := 5) C rfl dX5_digitAt_5 ?_
  refine v_isub (pc := 7) C dX5_digitAt_7 ?_
  exact v_iret (pc := 8) C hr hlk (⟨congrArg iI (by omega), rfl⟩) dX5_digitAt_8
set_option maxHeartbeats 4000000 in
set_option maxRecDepth 100000 in
theorem ct_X5_stepsAt (l : Launch) (L : Lay) (g : St) (i : Int) (ht : wt g) (hi : -999 ≤ i ∧ i ≤ 999) : Met l yX5_stepsAt (.code yX5_stepsAt cX5_stepsAt 3 (some .int) :: wsL_law) { frames := 2, cells := 0, slots := 0, locals := 42 } (va_Pc [.ref (adr L 12 0 0), .int (iI i)] (HS L g)) (va_Qi (fun (r9 : Int32) (u9 : St) => r9 = iI (if cdA g i = 45 then -(cdA g (i + 1) - 48) else cdA g (i + 1) - 48) ∧ u9 = g) (fun u t => HS L u t) (Af L)) 0 0 (Af L) := by
  refine ct_mk (by decide +kernel) (Nat.le_of_ble_eq_true rfl) ?_
  intro pp ee ss mm bel mth cx C hr hlk
  show V pp l ee { frames := 2, cells := 0, slots := 0, locals := 42 } ss mm ([.ref (adr L 12 0 0), .int (iI i)]).toArray bel mth cx 3 L (HH L g) 0 0 _ 0 [(0, .ref (adr L 12 0 0)), (1, .int (iI i))] []
  obtain ⟨hL, hC⟩ := id ht
  have q1 := cdA_in ht i
  have q2 := cdA_in ht (i + 1)
  refine v_aload_n (pc := 0) C 0 rfl rfl dX5_stepsAt_0 ?_
  refine v_iload_n (pc := 1) C 1 rfl rfl dX5_stepsAt_1 ?_
  refine v_iconst (pc := 2) C dX5_stepsAt_2 ?_
  refine v_iadd (pc := 3) C dX5_stepsAt_3 ?_
  refine v_calliV (pc := 4) C cw_RX5_40 rcv_12 (ct_X5_digitAt l L g (i + 1) (by first | assumption | omega | (simp [bl, up] <;> omega)) (by first | assumption | omega | (simp [bl, up] <;> omega))) ⟨Nat.le_of_ble_eq_true rfl, Nat.le_of_ble_eq_true rfl⟩ rfl (Nat.le_of_ble_eq_true rfl) ⟨Nat.le_of_ble_eq_true rfl, Nat.le_of_ble_eq_true rfl⟩ rfl dX5_stepsAt_4 (fun r9 u9 hP_1 => ?_)
  obtain ⟨hP_1, hP_1b⟩ := hP_1
  rw [hP_1, hP_1b]
  clear hP_1 hP_1b r9 u9
  refine v_istore_n (pc := 7) C [(2, .int (iI (cdA g (i + 1) - 48))), (0, .ref (adr L 12 0 0)), (1, .int (iI i))] rfl (by decide) rfl dX5_stepsAt_7 ?_
  refine v_aload_n (pc := 8) C 1 rfl rfl dX5_stepsAt_8 ?_
  refine v_iload_n (pc := 9) C 2 rfl rfl dX5_stepsAt_9 ?_
  refine v_calliV (pc := 10) C cw_RX5_37 rcv_12 (ct_X5_codeAt l L g i (by first | assumption | omega | (simp [bl, up] <;> omega)) (by first | assumption | omega | (simp [bl, up] <;> omega))) ⟨Nat.le_of_ble_eq_true rfl, Nat.le_of_ble_eq_true rfl⟩ rfl (Nat.le_of_ble_eq_true rfl) ⟨Nat.le_of_ble_eq_true rfl, Nat.le_of_ble_eq_true rfl⟩ rfl dX5_stepsAt_10 (fun r9 u9 hP_2 => ?_)
  obtain ⟨hP_2, hP_2b⟩ := hP_2
  rw [hP_2, hP_2b]
  clear hP_2 hP_2b r9 u9
  refine v_bipush (pc := 13) C rfl dX5_stepsAt_13 ?_
  refine v_icmp_ne (pc := 15) C 23 ⟨by (first | assumption | omega | (simp [bl, up] <;> omega)), by (first | assumption | omega | (simp [bl, up] <;> omega))⟩ ⟨by (first | assumption | omega | (simp [bl, up] <;> omega)), by (first | assumption | omega | (simp [bl, up] <;> omega))⟩ (by decide) dX5_stepsAt_15 (fun h15 => ?_) (fun h15 => ?_)
  · skip
    refine v_iload_n (pc := 23) C 0 rfl rfl dX5_stepsAt_23 ?_
    exact v_iret (pc := 24) C hr hlk (⟨congrArg iI (by grind), rfl⟩) dX5_stepsAt_24
  · skip
    refine v_iload_n (pc := 18) C 0 rfl rfl dX5_stepsAt_18 ?_
    refine v_ineg (pc := 19) C dX5_stepsAt_19 ?_
    refine v_goto (pc := 20) C 24 (by decide) dX5_stepsAt_20 ?_
    exact v_iret (pc := 24) C hr hlk (⟨congrArg iI (by grind), rfl⟩) dX5_stepsAt_24
set_option maxHeartbeats 4000000 in
set_option maxRecDepth 100000 in
theorem ct_X5_numberAt (l : Launch) (L : Lay) (g : St) (i : Int) (ht : wt g) (hi : -999 ≤ i ∧ i ≤ 999) : Met l yX5_numberAt (.code yX5_numberAt cX5_numberAt 3 (some .int) :: wsL_law) { frames := 2, cells := 0, slots := 0, locals := 42 } (va_Pc [.ref (adr L 12 0 0), .int (iI i)] (HS L g)) (va_Qi (fun (r9 : Int32) (u9 : St) => r9 = iI (if isDg (cdA g (i + 1)) then 10 * (cdA g i - 48) + (cdA g (i + 1) - 48) else cdA g i - 48) ∧ u9 = g) (fun u t => HS L u t) (Af L)) 0 0 (Af L) := by
  refine ct_mk (by decide +kernel) (Nat.le_of_ble_eq_true rfl) ?_
  intro pp ee ss mm bel mth cx C hr hlk
  show V pp l ee { frames := 2, cells := 0, slots := 0, locals := 42 } ss mm ([.ref (adr L 12 0 0), .int (iI i)]).toArray bel mth cx 3 L (HH L g) 0 0 _ 0 [(0, .ref (adr L 12 0 0)), (1, .int (iI i))] []
  obtain ⟨hL, hC⟩ := id ht
  have q1 := cdA_in ht i
  have q2 := cdA_in ht (i + 1)
  refine v_aload_n (pc := 0) C 0 rfl rfl dX5_numberAt_0 ?_
  refine v_iload_n (pc := 1) C 1 rfl rfl dX5_numberAt_1 ?_
  refine v_calliV (pc := 2) C cw_RX5_40 rcv_12 (ct_X5_digitAt l L g i (by first | assumption | omega | (simp [bl, up] <;> omega)) (by first | assumption | omega | (simp [bl, up] <;> omega))) ⟨Nat.le_of_ble_eq_true rfl, Nat.le_of_ble_eq_true rfl⟩ rfl (Nat.le_of_ble_eq_true rfl) ⟨Nat.le_of_ble_eq_true rfl, Nat.le_of_ble_eq_true rfl⟩ rfl dX5_numberAt_2 (fun r9 u9 hP_1 => ?_)
  obtain ⟨hP_1, hP_1b⟩ := hP_1
  rw [hP_1, hP_1b]
  clear hP_1 hP_1b r9 u9
  refine v_istore_n (pc := 5) C [(2, .int (iI (cdA g i - 48))), (0, .ref (adr L 12 0 0)), (1, .int (iI i))] rfl (by decide) rfl dX5_numberAt_5 ?_
  refine v_aload_n (pc := 6) C 1 rfl rfl dX5_numberAt_6 ?_
  refine v_iload_n (pc := 7) C 2 rfl rfl dX5_numberAt_7 ?_
  refine v_iconst (pc := 8) C dX5_numberAt_8 ?_
  refine v_iadd (pc := 9) C dX5_numberAt_9 ?_
  refine v_calliV (pc := 10) C cw_RX5_37 rcv_12 (ct_X5_codeAt l L g (i + 1) (by first | assumption | omega | (simp [bl, up] <;> omega)) (by first | assumption | omega | (simp [bl, up] <;> omega))) ⟨Nat.le_of_ble_eq_true rfl, Nat.le_of_ble_eq_true rfl⟩ rfl (Nat.le_of_ble_eq_true rfl) ⟨Nat.le_of_ble_eq_true rfl, Nat.le_of_ble_eq_true rfl⟩ rfl dX5_numberAt_10 (fun r9 u9 hP_2 => ?_)
  obtain ⟨hP_2, hP_2b⟩ := hP_2
  rw [hP_2, hP_2b]
  clear hP_2 hP_2b r9 u9
  refine v_calliS (pc := 13) C cw_RX5_31 (ct_X5_isDigit l L g (cdA g (i + 1)) (by unfold rg; omega)) ⟨Nat.le_of_ble_eq_true rfl, Nat.le_of_ble_eq_true rfl⟩ rfl (Nat.le_of_ble_eq_true rfl) ⟨Nat.le_of_ble_eq_true rfl, Nat.le_of_ble_eq_true rfl⟩ rfl dX5_numberAt_13 (fun r9 u9 hP_3 => ?_)
  obtain ⟨hP_3, hP_3b⟩ := hP_3
  rw [hP_3, hP_3b]
  clear hP_3 hP_3b r9 u9
  refine v_if_eq (pc := 16) C 34 ⟨by split <;> decide, by split <;> decide⟩ (by decide) dX5_numberAt_16 (fun h16 => ?_) (fun h16 => ?_)
  · skip
    refine v_iload_n (pc := 34) C 0 rfl rfl dX5_numberAt_34 ?_
    exact v_iret (pc := 35) C hr hlk (⟨congrArg iI (by grind), rfl⟩) dX5_numberAt_35
  · skip
    refine v_bipush (pc := 19) C rfl dX5_numberAt_19 ?_
    refine v_iload_n (pc := 21) C 0 rfl rfl dX5_numberAt_21 ?_
    refine v_imul (pc := 22) C dX5_numberAt_22 ?_
    refine v_aload_n (pc := 23) C 1 rfl rfl dX5_numberAt_23 ?_
    refine v_iload_n (pc := 24) C 2 rfl rfl dX5_numberAt_24 ?_
    refine v_iconst (pc := 25) C dX5_numberAt_25 ?_
    refine v_iadd (pc := 26) C dX5_numberAt_26 ?_
    refine v_calliV (pc := 27) C cw_RX5_40 rcv_12 (ct_X5_digitAt l L g (i + 1) (by first | assumption | omega | (simp [bl, up] <;> omega)) (by first | assumption | omega | (simp [bl, up] <;> omega))) ⟨Nat.le_of_ble_eq_true rfl, Nat.le_of_ble_eq_true rfl⟩ rfl (Nat.le_of_ble_eq_true rfl) ⟨Nat.le_of_ble_eq_true rfl, Nat.le_of_ble_eq_true rfl⟩ rfl dX5_numberAt_27 (fun r9 u9 hP_4 => ?_)
    obtain ⟨hP_4, hP_4b⟩ := hP_4
    rw [hP_4, hP_4b]
    clear hP_4 hP_4b r9 u9
    refine v_iadd (pc := 30) C dX5_numberAt_30 ?_
    refine v_goto (pc := 31) C 35 (by decide) dX5_numberAt_31 ?_
    exact v_iret (pc := 35) C hr hlk (⟨congrArg iI (by grind), rfl⟩) dX5_numberAt_35
set_option maxHeartbeats 4000000 in
set_option maxRecDepth 100000 in
theorem ct_X5_startsOrder (l : Launch) (L : Lay) (g : St) (i : Int) (ht : wt g) (hi : -999 ≤ i ∧ i ≤ 999) : Met l yX5_startsOrder (.code yX5_startsOrder cX5_startsOrder 2 (some .boolean) :: wsL_law) { frames := 1, cells := 0, slots := 0, locals := 21 } (va_Pc [.ref (adr L 12 0 0), .int (iI i)] (HS L g)) (va_Qi (fun (r9 : Int32) (u9 : St) => r9 = iI (if i = 0 ∨ cdA g (i - 1) = 59 then 1 else 0) ∧ u9 = g) (fun u t => HS L u t) (Af L)) 0 0 (Af L) := by
  refine ct_mk (by decide +kernel) (Nat.le_of_ble_eq_true rfl) ?_
  intro pp ee ss mm bel mth cx C hr hlk
  show V pp l ee { frames := 1, cells := 0, slots := 0, locals := 21 } ss mm ([.ref (adr L 12 0 0), .int (iI i)]).toArray bel mth cx 2 L (HH L g) 0 0 _ 0 [(0, .ref (adr L 12 0 0)), (1, .int (iI i))] []
  obtain ⟨hL, hC⟩ := id ht
  have q1 := cdA_in ht (i - 1)
  refine v_iload_n (pc := 0) C 1 rfl rfl dX5_startsOrder_0 ?_
  refine v_if_eq (pc := 1) C 16 ⟨by (first | assumption | omega | (simp [bl, up] <;> omega)), by (first | assumption | omega | (simp [bl, up] <;> omega))⟩ (by decide) dX5_startsOrder_1 (fun h1 => ?_) (fun h1 => ?_)
  · skip
    refine v_iconst (pc := 16) C dX5_startsOrder_16 ?_
    refine v_goto (pc := 17) C 21 (by decide) dX5_startsOrder_17 ?_
    exact v_zret (pc := 21) C hr hlk (by first | assumption | omega | (simp [bl, up] <;> omega)) (⟨congrArg iI (by grind), rfl⟩) dX5_startsOrder_21
  · skip
    refine v_aload_n (pc := 4) C 0 rfl rfl dX5_startsOrder_4 ?_
    refine v_iload_n (pc := 5) C 1 rfl rfl dX5_startsOrder_5 ?_
    refine v_iconst (pc := 6) C dX5_startsOrder_6 ?_
    refine v_isub (pc := 7) C dX5_startsOrder_7 ?_
    refine v_calliV (pc := 8) C cw_RX5_37 rcv_12 (ct_X5_codeAt l L g (i - 1) (by first | assumption | omega | (simp [bl, up] <;> omega)) (by first | assumption | omega | (simp [bl, up] <;> omega))) ⟨Nat.le_of_ble_eq_true rfl, Nat.le_of_ble_eq_true rfl⟩ rfl (Nat.le_of_ble_eq_true rfl) ⟨Nat.le_of_ble_eq_true rfl, Nat.le_of_ble_eq_true rfl⟩ rfl dX5_startsOrder_8 (fun r9 u9 hP_1 => ?_)
    obtain ⟨hP_1, hP_1b⟩ := hP_1
    rw [hP_1, hP_1b]
    clear hP_1 hP_1b r9 u9
    refine v_bipush (pc := 11) C rfl dX5_startsOrder_11 ?_
    refine v_icmp_ne (pc := 13) C 20 ⟨by (first | assumption | omega | (simp [bl, up] <;> omega)), by (first | assumption | omega | (simp [bl, up] <;> omega))⟩ ⟨by (first | assumption | omega | (simp [bl, up] <;> omega)), by (first | assumption | omega | (simp [bl, up] <;> omega))⟩ (by decide) dX5_startsOrder_13 (fun h13 => ?_) (fun h13 => ?_)
    · skip
      refine v_iconst (pc := 20) C dX5_startsOrder_20 ?_
      exact v_zret (pc := 21) C hr hlk (by first | assumption | omega | (simp [bl, up] <;> omega)) (⟨congrArg iI (by grind), rfl⟩) dX5_startsOrder_21
    · skip
      refine v_iconst (pc := 16) C dX5_startsOrder_16 ?_
      refine v_goto (pc := 17) C 21 (by decide) dX5_startsOrder_17 ?_
      exact v_zret (pc := 21) C hr hlk (by first | assumption | omega | (simp [bl, up] <;> omega)) (⟨congrArg iI (by grind), rfl⟩) dX5_startsOrder_21
