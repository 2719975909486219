/-! the reference: the text's end -/
def ltG (g : St) : St := up g 14 0 0 9 (nx g)
def roG (g : St) : St := if nx g = 99 then rcG (atS (ltG g)) else if nx g = 109 then rwG (atS (ltG g)) else if nx g = 116 then rtG (atS (ltG g)) else ltG g
def roR (g : St) : Int := if nx g = 99 then rcR (atS (ltG g)) else if nx g = 109 then rwR (atS (ltG g)) else if nx g = 116 then rtR (atS (ltG g)) else 0
def fe : Nat → St → St × Int
  | 0, g => (g, 0)
  | n + 1, g => if roR g = 0 then (roG g, roG g 14 0 0 8) else if roG g 14 0 0 8 = roG g 14 0 0 7 then (roG g, -1) else if nx (roG g) = 59 then fe n (tkG (roG g) 59) else (roG g, roG g 14 0 0 8)
theorem nx_up {g : St} {q v : Int} (h7 : q ≠ 7) (h8 : q ≠ 8) : nx (up g 14 0 0 q v) = nx g := by
  unfold nx; rw [up_i (Ne.symm h7), up_i (Ne.symm h8), up_f (by decide)]
theorem nx_lt (g : St) : nx (ltG g) = nx g := nx_up (by decide) (by decide)
theorem wb_lt {g : St} (h : wb g) : wb (ltG g) := wb_up h (by decide) (by decide)
theorem wb_al {g : St} (h : wb g) (h2 : nx g ≠ 0) : wb (atS (ltG g)) := wb_ad (wb_lt h) (by rw [nx_lt]; exact h2)
theorem rcR_01 (g : St) : rcR g = 0 ∨ rcR g = 1 := by unfold rcR; (repeat' split) <;> simp
theorem rwR_01 (g : St) : rwR g = 0 ∨ rwR g = 1 := by unfold rwR; (repeat' split) <;> simp
theorem rtR_01 (g : St) : rtR g = 0 ∨ rtR g = 1 := by unfold rtR; (repeat' split) <;> simp
theorem roR_01 (g : St) : roR g = 0 ∨ roR g = 1 := by
  unfold roR; (repeat' split)
  · exact rcR_01 _
  · exact rwR_01 _
  · exact rtR_01 _
  · exact Or.inl rfl
/-- the text goes on: only the scratch numbers change -/
def fw (g u : St) : Prop := wb u ∧ (g 14 0 0 8 ≤ u 14 0 0 8 ∧ (u 14 0 0 8 ≤ g 14 0 0 8 ∨ u 14 0 0 8 ≤ g 14 0 0 7)) ∧ ∀ f k j i, ¬ (f = 14 ∧ k = 0 ∧ j = 0 ∧ 8 ≤ i ∧ i ≤ 11) → u f k j i = g f k j i
theorem fw_re {g : St} (h : wb g) : fw g g := ⟨h, ⟨Int.le_refl _, Or.inl (Int.le_refl _)⟩, fun _ _ _ _ _ => rfl⟩
theorem fw_tr {g u w : St} (h : fw g u) (h2 : fw u w) : fw g w := ⟨h2.1, by have h7 := h.2.2 14 0 0 7 (by decide); have a := h.2.1; have b := h2.2.1; omega, fun f k j i hn => (h2.2.2 f k j i hn).trans (h.2.2 f k j i hn)⟩
theorem fw_ad {g : St} (h : wb g) (h2 : nx g ≠ 0) : fw g (atS g) := ⟨wb_ad h h2, by have h3 := nx_at h2; unfold atS; rw [up_s]; omega, fun f k j i hn => by simp only [atS, up]; rw [if_neg (by omega)]⟩
theorem fw_dg {g : St} {a b : Int} (h : wb g) (ha : 0 ≤ a) : fw g (dgG g a b) := by
  unfold dgG; split
  · exact fw_ad h (by omega)
  · exact fw_re h
theorem fw_tk {g : St} {c : Int} (h : wb g) (hc : 0 < c) : fw g (tkG g c) := by
  unfold tkG; split
  · exact fw_ad h (by omega)
  · exact fw_re h
theorem fw_up {g : St} {q v : Int} (h : wb g) (h9 : 9 ≤ q ∧ q ≤ 11) : fw g (up g 14 0 0 q v) := ⟨wb_up h (by omega) (by omega), by rw [up_i (by omega)]; omega, fun f k j i hn => by simp only [up]; rw [if_neg (by omega)]⟩
theorem fw_fs {g : St} {a b : Int} (h : wb g) (ha : 0 ≤ a) : fw g (fsB g a b) := fw_tr (fw_dg h ha) (fw_up (wb_dg h ha) (by decide))
theorem fw_sn {g : St} {a b s : Int} (h : wb g) (ha : 0 ≤ a) : fw g (snB g a b s) := fw_tr (fw_dg h ha) (fw_up (wb_dg h ha) (by decide))
theorem fw_ts {g : St} {c a b s : Int} (h : wb g) (hc : 0 < c) (ha : 0 ≤ a) : fw g (snB (tkG g c) a b s) := fw_tr (fw_tk h hc) (fw_sn (wb_tk h hc) ha)
theorem fw_rc {g : St} (h : wb g) : fw g (rcG g) := by
  have h1 : fw g (fsB g 0 3) := fw_fs h (Int.le_refl 0)
  unfold rcG; (repeat' split)
  · exact h1
  · exact fw_tr h1 (fw_ts h1.1 (by decide) (by decide))
  · exact h1
theorem fw_rw {g : St} (h : wb g) : fw g (rwG g) := by
  have h1 : fw g (fsB g 0 3) := fw_fs h (Int.le_refl 0)
  unfold rwG; (repeat' split)
  · exact h1
  · exact fw_tr h1 (fw_ts h1.1 (by decide) (by decide))
  · exact fw_tr h1 (fw_ts h1.1 (by decide) (by decide))
  · exact h1
theorem fw_rt {g : St} (h : wb g) : fw g (rtG g) := by
  have h1 : fw g (fsB g 1 9) := fw_fs h (by decide)
  have h2 : fw g (dgG (fsB g 1 9) 0 9) := fw_tr h1 (fw_dg h1.1 (by decide))
  unfold rtG; (repeat' split)
  · exact fw_tr h1 (fw_up h1.1 (by decide))
  · exact fw_tr h2 (fw_up h2.1 (by decide))
  · exact fw_tr h2 (fw_up h2.1 (by decide))
theorem fw_lt {g : St} (h : wb g) : fw g (ltG g) := fw_up h (by decide)
theorem fw_al {g : St} (h : wb g) (h2 : nx g ≠ 0) : fw g (atS (ltG g)) := fw_tr (fw_lt h) (fw_ad (wb_lt h) (by rw [nx_lt]; exact h2))
theorem fw_ro {g : St} (h : wb g) : fw g (roG g) := by
  unfold roG; (repeat' split)
  · exact fw_tr (fw_al h (by omega)) (fw_rc (wb_al h (by omega)))
  · exact fw_tr (fw_al h (by omega)) (fw_rw (wb_al h (by omega)))
  · exact fw_tr (fw_al h (by omega)) (fw_rt (wb_al h (by omega)))
  · exact fw_lt h
theorem tk_at {g : St} {c : Int} (h : nx g = c) : tkG g c 14 0 0 8 = g 14 0 0 8 + 1 := by
  unfold tkG; rw [if_pos h]; exact up_s
theorem wb_up8 {g : St} (h : wb g) : wb (up g 14 0 0 8 0) := by
  unfold wb at *
  rw [up_i (by decide), up_s, up_ff (by decide)]
  exact ⟨h.1, by decide, h.2.2⟩

theorem fe_in : ∀ (n : Nat) {g : St}, wb g → fw g (fe n g).1 ∧ -1 ≤ (fe n g).2 ∧ (fe n g).2 ≤ 100
  | 0, g, h => ⟨fw_re h, by simp [fe], by simp [fe]⟩
  | n + 1, g, h => by
    have hw := fw_ro h
    have hb := hw.1.2.1
    rw [fe]; (repeat' split)
    · exact ⟨hw, by omega, by omega⟩
    · exact ⟨hw, by simp, by simp⟩
    · have hr := fe_in n (g := tkG (roG g) 59) (wb_tk hw.1 (by decide))
      exact ⟨fw_tr (fw_tr hw (fw_tk hw.1 (by decide))) hr.1, hr.2⟩
    · exact ⟨hw, by omega, by omega⟩

theorem cw_RX7_132 : CW RX7 132 RX7 yX7_readsCall cX7_readsCall 1 (some .boolean) 0 := ⟨u_19_18, u_19_19, u_19_20, u_1_5, u_19_21, by decide +kernel⟩
theorem cw_RX7_136 : CW RX7 136 RX7 yX7_readsWalk cX7_readsWalk 3 (some .boolean) 0 := ⟨u_20_8, u_20_9, u_20_10, u_1_5, u_20_11, by decide +kernel⟩
theorem cw_RX7_139 : CW RX7 139 RX7 yX7_readsTurns cX7_readsTurns 2 (some .boolean) 0 := ⟨u_20_12, u_20_13, u_20_14, u_1_5, u_20_15, by decide +kernel⟩
theorem cw_RX7_142 : CW RX7 142 RX7 yX7_readsOrder cX7_readsOrder 1 (some .boolean) 0 := ⟨u_19_9, u_19_10, u_19_11, u_1_5, u_19_12, by decide +kernel⟩
theorem cw_RX7_145 : CW RX7 145 RX7 yX7_findError cX7_findError 1 (some .int) 0 := ⟨u_19_4, u_19_5, u_19_6, u_1_5, u_19_7, by decide +kernel⟩
set_option maxHeartbeats 4000000 in
set_option maxRecDepth 100000 in
theorem ct_X7_readsOrder (l : Launch) (L : Lay) (g : St) (hb : wb g) : Met l yX7_readsOrder (.code yX7_readsOrder cX7_readsOrder 1 (some .boolean) :: wsL_law) { frames := 3, cells := 0, slots := 0, locals := 67 } (va_Pc [.ref (adr L 14 0 0)] (HS L g)) (va_Qi (fun (r9 : Int32) (u9 : St) => r9 = iI (roR g) ∧ u9 = (roG g)) (fun u t => HS L u t) (Af L)) 0 0 (Af L) := by
  refine ct_mk (by decide +kernel) (Nat.le_of_ble_eq_true rfl) ?_
  intro pp ee ss mm bel mth cx C hr hlk
  show V pp l ee { frames := 3, cells := 0, slots := 0, locals := 67 } ss mm ([.ref (adr L 14 0 0)]).toArray bel mth cx 1 L (HH L g) 0 0 _ 0 [(0, .ref (adr L 14 0 0))] []
  have hnx := nx_in hb
  refine v_aload_n (pc := 0) C 0 rfl rfl dX7_readsOrder_0 ?_
  refine v_aload_n (pc := 1) C 0 rfl rfl dX7_readsOrder_1 ?_
  refine v_calliV (pc := 2) C cw_RX7_114 rcv_14 (ct_X7_next l L g (by first | assumption | omega | exact wb_al hb (by omega) | (simp [up] <;> omega))) ⟨Nat.le_of_ble_eq_true rfl, Nat.le_of_ble_eq_true rfl⟩ rfl (Nat.le_of_ble_eq_true rfl) ⟨Nat.le_of_ble_eq_true rfl, Nat.le_of_ble_eq_true rfl⟩ rfl dX7_readsOrder_2 (fun r9 u9 hP_1 => ?_)
  obtain ⟨hP_1, hP_1b⟩ := hP_1
  rw [hP_1, hP_1b]
  clear hP_1 hP_1b r9 u9
  refine pt_14_9 (pc := 5) C u_19_13 dX7_readsOrder_5 ?_
  refine v_st (g2 := ltG g) C (rfl) ?_
  refine v_aload_n (pc := 8) C 0 rfl rfl dX7_readsOrder_8 ?_
  refine gt_14_9 (pc := 9) C u_19_13 dX7_readsOrder_9 (nx g) (up_s) ?_
  by_cases h12_99 : nx g = 99
  · skip
    refine v_lookup (pc := 12) (o := 36) C 48 ⟨by (first | assumption | omega | exact wb_al hb (by omega) | (simp [up] <;> omega)), by (first | assumption | omega | exact wb_al hb (by omega) | (simp [up] <;> omega))⟩ (by decide +kernel) (by rw [h12_99]; decide +kernel) (by decide) dX7_readsOrder_12 ?_
    refine v_aload_n (pc := 48) C 0 rfl rfl dX7_readsOrder_48 ?_
    refine v_dup (pc := 49) C rfl dX7_readsOrder_49 ?_
    refine gt_14_8 (pc := 50) C u_19_8 dX7_readsOrder_50 (g 14 0 0 8) (up_i (by decide)) ?_
    refine v_iconst (pc := 53) C dX7_readsOrder_53 ?_
    refine v_iadd (pc := 54) C dX7_readsOrder_54 ?_
    refine pt_14_8 (pc := 55) C u_19_8 dX7_readsOrder_55 ?_
    refine v_st (g2 := atS (ltG g)) C (by unfold atS ltG; rw [up_i (by decide)]) ?_
    refine v_aload_n (pc := 58) C 0 rfl rfl dX7_readsOrder_58 ?_
    refine v_calliV (pc := 59) C cw_RX7_132 rcv_14 (ct_X7_readsCall l L (atS (ltG g)) (by first | assumption | omega | exact wb_al hb (by omega) | (simp [up] <;> omega))) ⟨Nat.le_of_ble_eq_true rfl, Nat.le_of_ble_eq_true rfl⟩ rfl (Nat.le_of_ble_eq_true rfl) ⟨Nat.le_of_ble_eq_true rfl, Nat.le_of_ble_eq_true rfl⟩ rfl dX7_readsOrder_59 (fun r9 u9 hP_2 => ?_)
    obtain ⟨hP_2, hP_2b⟩ := hP_2
    rw [hP_2, hP_2b]
    clear hP_2 hP_2b r9 u9
    exact v_zret (pc := 62) C hr hlk (rcR_01 _) (⟨congrArg iI (by unfold roR; (repeat' first | rfl | omega | rw [if_pos (by first | assumption | omega)] | rw [if_neg (by first | assumption | omega)])), by unfold roG; (repeat' first | rfl | omega | rw [if_pos (by first | assumption | omega)] | rw [if_neg (by first | assumption | omega)])⟩) dX7_readsOrder_62
  by_cases h12_109 : nx g = 109
  · skip
    refine v_lookup (pc := 12) (o := 51) C 63 ⟨by (first | assumption | omega | exact wb_al hb (by omega) | (simp [up] <;> omega)), by (first | assumption | omega | exact wb_al hb (by omega) | (simp [up] <;> omega))⟩ (by decide +kernel) (by rw [h12_109]; decide +kernel) (by decide) dX7_readsOrder_12 ?_
    refine v_aload_n (pc := 63) C 0 rfl rfl dX7_readsOrder_63 ?_
    refine v_dup (pc := 64) C rfl dX7_readsOrder_64 ?_
    refine gt_14_8 (pc := 65) C u_19_8 dX7_readsOrder_65 (g 14 0 0 8) (up_i (by decide)) ?_
    refine v_iconst (pc := 68) C dX7_readsOrder_68 ?_
    refine v_iadd (pc := 69) C dX7_readsOrder_69 ?_
    refine pt_14_8 (pc := 70) C u_19_8 dX7_readsOrder_70 ?_
    refine v_st (g2 := atS (ltG g)) C (by unfold atS ltG; rw [up_i (by decide)]) ?_
    refine v_aload_n (pc := 73) C 0 rfl rfl dX7_readsOrder_73 ?_
    refine v_calliV (pc := 74) C cw_RX7_136 rcv_14 (ct_X7_readsWalk l L (atS (ltG g)) (by first | assumption | omega | exact wb_al hb (by omega) | (simp [up] <;> omega))) ⟨Nat.le_of_ble_eq_true rfl, Nat.le_of_ble_eq_true rfl⟩ rfl (Nat.le_of_ble_eq_true rfl) ⟨Nat.le_of_ble_eq_true rfl, Nat.le_of_ble_eq_true rfl⟩ rfl dX7_readsOrder_74 (fun r9 u9 hP_3 => ?_)
    obtain ⟨hP_3, hP_3b⟩ := hP_3
    rw [hP_3, hP_3b]
    clear hP_3 hP_3b r9 u9
    exact v_zret (pc := 77) C hr hlk (rwR_01 _) (⟨congrArg iI (by unfold roR; (repeat' first | rfl | omega | rw [if_pos (by first | assumption | omega)] | rw [if_neg (by first | assumption | omega)])), by unfold roG; (repeat' first | rfl | omega | rw [if_pos (by first | assumption | omega)] | rw [if_neg (by first | assumption | omega)])⟩) dX7_readsOrder_77
  by_cases h12_116 : nx g = 116
  · skip
    refine v_lookup (pc := 12) (o := 66) C 78 ⟨by (first | assumption | omega | exact wb_al hb (by omega) | (simp [up] <;> omega)), by (first | assumption | omega | exact wb_al hb (by omega) | (simp [up] <;> omega))⟩ (by decide +kernel) (by rw [h12_116]; decide +kernel) (by decide) dX7_readsOrder_12 ?_
    refine v_aload_n (pc := 78) C 0 rfl rfl dX7_readsOrder_78 ?_
    refine v_dup (pc := 79) C rfl dX7_readsOrder_79 ?_
    refine gt_14_8 (pc := 80) C u_19_8 dX7_readsOrder_80 (g 14 0 0 8) (up_i (by decide)) ?_
    refine v_iconst (pc := 83) C dX7_readsOrder_83 ?_
    refine v_iadd (pc := 84) C dX7_readsOrder_84 ?_
    refine pt_14_8 (pc := 85) C u_19_8 dX7_readsOrder_85 ?_
    refine v_st (g2 := atS (ltG g)) C (by unfold atS ltG; rw [up_i (by decide)]) ?_
    refine v_aload_n (pc := 88) C 0 rfl rfl dX7_readsOrder_88 ?_
    refine v_calliV (pc := 89) C cw_RX7_139 rcv_14 (ct_X7_readsTurns l L (atS (ltG g)) (by first | assumption | omega | exact wb_al hb (by omega) | (simp [up] <;> omega))) ⟨Nat.le_of_ble_eq_true rfl, Nat.le_of_ble_eq_true rfl⟩ rfl (Nat.le_of_ble_eq_true rfl) ⟨Nat.le_of_ble_eq_true rfl, Nat.le_of_ble_eq_true rfl⟩ rfl dX7_readsOrder_89 (fun r9 u9 hP_4 => ?_)
    obtain ⟨hP_4, hP_4b⟩ := hP_4
    rw [hP_4, hP_4b]
    clear hP_4 hP_4b r9 u9
    exact v_zret (pc := 92) C hr hlk (rtR_01 _) (⟨congrArg iI (by unfold roR; (repeat' first | rfl | omega | rw [if_pos (by first | assumption | omega)] | rw [if_neg (by first | assumption | omega)])), by unfold roG; (repeat' first | rfl | omega | rw [if_pos (by first | assumption | omega)] | rw [if_neg (by first | assumption | omega)])⟩) dX7_readsOrder_92
  refine v_lookup (pc := 12) (o := 81) C 93 ⟨by (first | assumption | omega | exact wb_al hb (by omega) | (simp [up] <;> omega)), by (first | assumption | omega | exact wb_al hb (by omega) | (simp [up] <;> omega))⟩ (by decide +kernel) (by simp [Op.lookupswitch.offset, h12_99, h12_109, h12_116, Ne.symm h12_99, Ne.symm h12_109, Ne.symm h12_116]) (by decide) dX7_readsOrder_12 ?_
  refine v_iconst (pc := 93) C dX7_readsOrder_93 ?_
  exact v_zret (pc := 94) C hr hlk (by first | assumption | omega | exact wb_al hb (by omega) | (simp [up] <;> omega)) (⟨congrArg iI (by unfold roR; (repeat' first | rfl | omega | rw [if_pos (by first | assumption | omega)] | rw [if_neg (by first | assumption | omega)])), by unfold roG; (repeat' first | rfl | omega | rw [if_pos (by first | assumption | omega)] | rw [if_neg (by first | assumption | omega)])⟩) dX7_readsOrder_94
set_option maxHeartbeats 4000000 in
set_option maxRecDepth 100000 in
theorem ct_X7_findError (l : Launch) (L : Lay) (g : St) (hb : wb g) : Met l yX7_findError (.code yX7_findError cX7_findError 1 (some .int) :: wsL_law) { frames := 4, cells := 0, slots := 0, locals := 87 } (va_Pc [.ref (adr L 14 0 0)] (HS L g)) (va_Qi (fun (r9 : Int32) (u9 : St) => r9 = iI ((fe 61 (up g 14 0 0 8 0)).2) ∧ u9 = (fe 61 (up g 14 0 0 8 0)).1) (fun u t => HS L u t) (Af L)) 0 0 (Af L) := by
  refine ct_mk (by decide +kernel) (Nat.le_of_ble_eq_true rfl) ?_
  intro pp ee ss mm bel mth cx C hr hlk
  show V pp l ee { frames := 4, cells := 0, slots := 0, locals := 87 } ss mm ([.ref (adr L 14 0 0)]).toArray bel mth cx 1 L (HH L g) 0 0 _ 0 [(0, .ref (adr L 14 0 0))] []
  have h0 := wb_up8 hb
  obtain ⟨FE, hFE⟩ : ∃ q, q = fe 61 (up g 14 0 0 8 0) := ⟨_, rfl⟩
  refine v_aload_n (pc := 0) C 0 rfl rfl dX7_findError_0 ?_
  refine v_iconst (pc := 1) C dX7_findError_1 ?_
  refine pt_14_8 (pc := 2) C u_19_8 dX7_findError_2 ?_
  have lb5 : ∀ (n9 : Nat) (u : St), (wb u) → (∃ n : Nat, 61 - u 14 0 0 8 ≤ n ∧ FE = fe n u) → (u 14 0 0 8 ≤ 60) → (61 - u 14 0 0 8).toNat < n9 → V pp l ee { frames := 4, cells := 0, slots := 0, locals := 87 } ss mm ([.ref (adr L 14 0 0)]).toArray bel mth cx 1 L (HH L u) 0 0 (MQ bel (va_Qi (fun (r9 : Int32) (u9 : St) => r9 = iI ((fe 61 (up g 14 0 0 8 0)).2) ∧ u9 = (fe 61 (up g 14 0 0 8 0)).1) (fun u t => HS L u t) (Af L)) ([.ref (adr L 14 0 0)]).toArray ss 0 0 (Af L)) 5 [(0, .ref (adr L 14 0 0))] [] := by
    intro n9
    induction n9 with
    | zero => intro u hu hf h60 hm9; exact absurd hm9 (Nat.not_lt_zero _)
    | succ n9 ih9 =>
      intro u hu hf h60 hm9
      obtain ⟨n, hn, hf⟩ := hf
      obtain ⟨n, rfl⟩ : ∃ q, n = q + 1 := ⟨n - 1, by omega⟩
      rw [fe] at hf
      have hw := fw_ro hu
      have hz := roR_01 u
      have hl := hw.2.1
      have hwb := hw.1
      obtain ⟨hb1, hb2, -⟩ := id hwb
      have hnx := nx_in hwb
      have hl7 := hw.2.2 14 0 0 7 (by decide)
      have ih5 := ih9
      refine v_aload_n (pc := 5) C 0 rfl rfl dX7_findError_5 ?_
      refine v_calliV (pc := 6) C cw_RX7_142 rcv_14 (ct_X7_readsOrder l L u (by first | assumption | omega | exact h0 | (simp [up] <;> omega))) ⟨Nat.le_of_ble_eq_true rfl, Nat.le_of_ble_eq_true rfl⟩ rfl (Nat.le_of_ble_eq_true rfl) ⟨Nat.le_of_ble_eq_true rfl, Nat.le_of_ble_eq_true rfl⟩ rfl dX7_findError_6 (fun r9 u9 hP_1 => ?_)
      obtain ⟨hP_1, hP_1b⟩ := hP_1
      rw [hP_1, hP_1b]
      clear hP_1 hP_1b r9 u9
      refine v_if_eq (pc := 9) C 39 ⟨by (first | assumption | omega | exact h0 | (simp [up] <;> omega)), by (first | assumption | omega | exact h0 | (simp [up] <;> omega))⟩ (by decide) dX7_findError_9 (fun h9 => ?_) (fun h9 => ?_)
      · skip
        refine v_aload_n (pc := 39) C 0 rfl rfl dX7_findError_39 ?_
        refine gt_14_8 (pc := 40) C u_19_8 dX7_findError_40 ((roG u) 14 0 0 8) (rfl) ?_
        exact v_iret (pc := 43) C hr hlk (⟨congrArg iI (by rw [← hFE, hf, if_pos h9]), by rw [← hFE, hf]; first | rw [if_pos h9] | rw [if_neg h9, if_pos (by omega)] | rw [if_neg h9, if_neg (by omega), if_neg h31c]⟩) dX7_findError_43
      · skip
        refine v_aload_n (pc := 12) C 0 rfl rfl dX7_findError_12 ?_
        refine gt_14_8 (pc := 13) C u_19_8 dX7_findError_13 ((roG u) 14 0 0 8) (rfl) ?_
        refine v_aload_n (pc := 16) C 0 rfl rfl dX7_findError_16 ?_
        refine gt_14_7 (pc := 17) C u_17_16 dX7_findError_17 ((roG u) 14 0 0 7) (rfl) ?_
        refine v_icmp_ne (pc := 20) C 25 ⟨by (first | assumption | omega | exact h0 | (simp [up] <;> omega)), by (first | assumption | omega | exact h0 | (simp [up] <;> omega))⟩ ⟨by (first | assumption | omega | exact h0 | (simp [up] <;> omega)), by (first | assumption | omega | exact h0 | (simp [up] <;> omega))⟩ (by decide) dX7_findError_20 (fun h20 => ?_) (fun h20 => ?_)
        · skip
          refine v_aload_n (pc := 25) C 0 rfl rfl dX7_findError_25 ?_
          refine v_bipush (pc := 26) C rfl dX7_findError_26 ?_
          refine v_calliV (pc := 28) C cw_RX7_123 rcv_14 (ct_X7_takes l L (roG u) 59 (by first | assumption | omega | exact h0 | (simp [up] <;> omega)) (by first | assumption | omega | exact h0 | (simp [up] <;> omega))) ⟨Nat.le_of_ble_eq_true rfl, Nat.le_of_ble_eq_true rfl⟩ rfl (Nat.le_of_ble_eq_true rfl) ⟨Nat.le_of_ble_eq_true rfl, Nat.le_of_ble_eq_true rfl⟩ rfl dX7_findError_28 (fun r9 u9 hP_2 => ?_)
          obtain ⟨hP_2, hP_2b⟩ := hP_2
          rw [hP_2, hP_2b]
          clear hP_2 hP_2b r9 u9
          refine v_if_ne (pc := 31) C 5 z1_rg (by decide) dX7_findError_31 (fun h31 => ?_) (fun h31 => ?_)
          · skip
            have h31c := z1_net h31
            exact ih5 (tkG (roG u) 59) (by exact wb_tk hwb (by decide)) (by exact ⟨n, by rw [tk_at h31c]; omega, by rw [hf, if_neg (by assumption), if_neg (by assumption), if_pos h31c]⟩) (by rw [tk_at h31c]; have := nx_at (g := roG u) (by omega); omega) (by rw [tk_at h31c]; omega)
          · skip
            have h31c := z1_nef h31
            refine v_st (g2 := roG u) C (tkG_no h31c) ?_
            refine v_aload_n (pc := 34) C 0 rfl rfl dX7_findError_34 ?_
            refine gt_14_8 (pc := 35) C u_19_8 dX7_findError_35 ((roG u) 14 0 0 8) (rfl) ?_
            exact v_iret (pc := 38) C hr hlk (⟨congrArg iI (by rw [← hFE, hf, if_neg h9, if_neg (by omega), if_neg h31c]), by rw [← hFE, hf]; first | rw [if_pos h9] | rw [if_neg h9, if_pos (by omega)] | rw [if_neg h9, if_neg (by omega), if_neg h31c]⟩) dX7_findError_38
        · skip
          refine v_iconst (pc := 23) C dX7_findError_23 ?_
          exact v_iret (pc := 24) C hr hlk (⟨congrArg iI (by rw [← hFE, hf, if_neg h9, if_pos (by omega)]), by rw [← hFE, hf]; first | rw [if_pos h9] | rw [if_neg h9, if_pos (by omega)] | rw [if_neg h9, if_neg (by omega), if_neg h31c]⟩) dX7_findError_24
  exact lb5 _ (up g 14 0 0 8 0) (by exact h0) (by exact ⟨61, by rw [up_s]; decide, hFE⟩) (by rw [up_s]; decide) (Nat.lt_succ_self _)
set_option maxHeartbeats 4000000 in
set_option maxRecDepth 100000 in
theorem ct_X7_firstError (l : Launch) (L : Lay) (g : St) (hb : wb g) : Met l yX7_firstError (.code yX7_firstError cX7_firstError 2 (some .int) :: wsL_law) { frames := 5, cells := 0, slots := 0, locals := 107 } (va_Pc [.ref (adr L 14 0 0)] (HS L g)) (va_Qi (fun (r9 : Int32) (u9 : St) => r9 = iI (if (fe 61 (up (t0 g) 14 0 0 8 0)).2 = -1 then (fe 61 (up (t0 g) 14 0 0 8 0)).1 14 0 0 7 else (fe 61 (up (t0 g) 14 0 0 8 0)).2) ∧ u9 = (fe 61 (up (t0 g) 14 0 0 8 0)).1) (fun u t => HS L u t) (Af L)) 0 0 (Af L) := by
  refine ct_mk (by decide +kernel) (Nat.le_of_ble_eq_true rfl) ?_
  intro pp ee ss mm bel mth cx C hr hlk
  show V pp l ee { frames := 5, cells := 0, slots := 0, locals := 107 } ss mm ([.ref (adr L 14 0 0)]).toArray bel mth cx 2 L (HH L g) 0 0 _ 0 [(0, .ref (adr L 14 0 0))] []
  have h0 : wb (t0 g) := wb_up hb (by decide) (by decide)
  have hfe := fe_in 61 (wb_up8 h0)
  refine v_aload_n (pc := 0) C 0 rfl rfl dX7_firstError_0 ?_
  refine v_iconst (pc := 1) C dX7_firstError_1 ?_
  refine pt_14_0 (pc := 2) C u_8_10 dX7_firstError_2 ?_
  refine v_st (g2 := t0 g) C (rfl) ?_
  refine v_aload_n (pc := 5) C 0 rfl rfl dX7_firstError_5 ?_
  refine v_calliV (pc := 6) C cw_RX7_145 rcv_14 (ct_X7_findError l L (t0 g) (by first | assumption | omega | exact h0 | (simp [up] <;> omega))) ⟨Nat.le_of_ble_eq_true rfl, Nat.le_of_ble_eq_true rfl⟩ rfl (Nat.le_of_ble_eq_true rfl) ⟨Nat.le_of_ble_eq_true rfl, Nat.le_of_ble_eq_true rfl⟩ rfl dX7_firstError_6 (fun r9 u9 hP_1 => ?_)
  obtain ⟨hP_1, hP_1b⟩ := hP_1
  rw [hP_1, hP_1b]
  clear hP_1 hP_1b r9 u9
  refine v_istore_n (pc := 9) C [(1, .int (iI ((fe 61 (up (t0 g) 14 0 0 8 0)).2))), (0, .ref (adr L 14 0 0))] rfl (by decide) rfl dX7_firstError_9 ?_
  refine v_iload_n (pc := 10) C 0 rfl rfl dX7_firstError_10 ?_
  refine v_iconst (pc := 11) C dX7_firstError_11 ?_
  refine v_icmp_ne (pc := 12) C 22 ⟨by (first | assumption | omega | exact h0 | (simp [up] <;> omega)), by (first | assumption | omega | exact h0 | (simp [up] <;> omega))⟩ ⟨by (first | assumption | omega | exact h0 | (simp [up] <;> omega)), by (first | assumption | omega | exact h0 | (simp [up] <;> omega))⟩ (by decide) dX7_firstError_12 (fun h12 => ?_) (fun h12 => ?_)
  · skip
    refine v_iload_n (pc := 22) C 0 rfl rfl dX7_firstError_22 ?_
    exact v_iret (pc := 23) C hr hlk (⟨congrArg iI (by first | rw [if_pos (by omega)] | rw [if_neg (by omega)]), rfl⟩) dX7_firstError_23
  · skip
    refine v_aload_n (pc := 15) C 1 rfl rfl dX7_firstError_15 ?_
    refine gt_14_7 (pc := 16) C u_17_16 dX7_firstError_16 (((fe 61 (up (t0 g) 14 0 0 8 0)).1) 14 0 0 7) (rfl) ?_
    refine v_goto (pc := 19) C 23 (by decide) dX7_firstError_19 ?_
    exact v_iret (pc := 23) C hr hlk (⟨congrArg iI (by first | rw [if_pos (by omega)] | rw [if_neg (by omega)]), rfl⟩) dX7_firstError_23
