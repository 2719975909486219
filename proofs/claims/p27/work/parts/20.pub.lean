/-! the public methods that may throw -/
abbrev eIX : String := "java/lang/IndexOutOfBoundsException"
abbrev eIA : String := "java/lang/IllegalArgumentException"
abbrev eIS : String := "java/lang/IllegalStateException"
theorem wf_fk {g u : St} {k d : Int} (h : ∀ f : Nat, 1 ≤ f → f ≤ 7 → u f k = g f k) (hw : wf g k d) : wf u k d := by
  unfold wf okE at *
  rw [h 1 (by decide) (by decide), h 2 (by decide) (by decide), h 3 (by decide) (by decide), h 5 (by decide) (by decide), h 6 (by decide) (by decide), h 7 (by decide) (by decide)]
  exact hw
theorem eOf_fk {g u : St} {k p : Int} (h : ∀ f : Nat, 1 ≤ f → f ≤ 7 → u f k = g f k) : eOf u k p = eOf g k p := by
  unfold eOf pOf
  rw [h 1 (by decide) (by decide), h 5 (by decide) (by decide), h 7 (by decide) (by decide)]
theorem cpE_k (g : St) (k o : Int) {k' : Int} (h : k' ≠ k) (f : Nat) : ∀ n, cpE g k o n f k' = g f k'
  | 0 => by funext j i; simp only [cpE, cp3, cp2, cp1]; grind
  | n + 1 => by
    rw [cpE, ← cpE_k g k o h f n]
    funext j i
    unfold cp7; simp only [up_k h]
theorem svG_k {g : St} (hh : wh g) {c : Int} (hc : c < 3) (k : Int) (f : Nat) (h8 : f ≠ 8) (h9 : f ≠ 9) : svG g k f c = g f c := by
  have h8' := svD_8 hh
  have hs := (svD_wh hh).2.1 (svD g 8 0 0 1) (by omega) (by omega)
  unfold svG
  rw [up_ff h8, cpE_k _ _ _ (by omega) f, svD_f g h8 h9]
theorem svG_0 {g : St} (hh : wh g) : ∀ f : Nat, 1 ≤ f → f ≤ 7 → svG g 0 f 0 = g f 0 := fun f h1 h7 => svG_k hh (by decide) 0 f (by omega) (by omega)
def fur (g : St) (k : Int) : Int := mxN (fun i => g 7 k (g 5 k 0 i) 1) (g 1 k 0 2).toNat (mxN (fun j => g 6 k j 0) 4 (g 3 k 0 0))
theorem fur_in {g : St} {k d : Int} (h : wf g k d) : 0 ≤ fur g k ∧ fur g k ≤ g 2 k 0 0 := by
  obtain ⟨hS0, hS1, hS2, hB0, hB1, hB2, hCl, hN, hPl, hPm, hPj, hEc, hSo⟩ := h
  constructor
  · have h1 := (mxN_le (f := fun i => g 7 k (g 5 k 0 i) 1) (v := fur g k) (n := (g 1 k 0 2).toNat) (b := mxN (fun j => g 6 k j 0) 4 (g 3 k 0 0))).mp (Int.le_refl _)
    have h2 := (mxN_le (f := fun j => g 6 k j 0) (v := fur g k) (n := 4) (b := g 3 k 0 0)).mp h1.1
    omega
  · unfold fur
    rw [mxN_le, mxN_le]
    refine ⟨⟨hB0.2, fun i h0 h1 => (hPl i h0 (by omega)).2⟩, fun i h0 h1 => ?_⟩
    have := hEc i h0 (by omega)
    unfold okE at this; omega

theorem cw_RX6_45 : CWs RX6 45 yX6_checkPlayer cX6_checkPlayer 1 none 1 := ⟨u_4_14, u_4_15, u_1_2, u_4_16, by decide +kernel⟩
theorem cw_RX6_49 : CWs RX6 49 yX6_checkRange cX6_checkRange 3 none 3 := ⟨u_6_23, u_7_0, u_1_2, u_7_1, by decide +kernel⟩
theorem cw_RX6_53 : CW RX6 53 RX3 yX3_save cX3_save 2 none 1 := ⟨u_10_13, u_10_14, u_10_15, u_1_16, u_10_16, by decide +kernel⟩
theorem cw_RX6_57 : CW RX6 57 RX1 yX1_sendEchoes cX1_sendEchoes 4 (some .int) 2 := ⟨u_11_22, u_11_23, u_12_0, u_1_12, u_12_1, by decide +kernel⟩
theorem cw_RX6_61 : CW RX6 61 RX1 yX1_movePlayer cX1_movePlayer 4 (some .int) 2 := ⟨u_12_16, u_12_17, u_12_18, u_1_12, u_12_19, by decide +kernel⟩
theorem cw_RX6_82 : CWs RX6 82 yX6_checkSetting cX6_checkSetting 1 none 1 := ⟨u_13_21, u_13_22, u_1_2, u_13_23, by decide +kernel⟩
theorem cw_RX6_92 : CW RX6 92 RX1 yX1_furthestPlace cX1_furthestPlace 3 (some .int) 0 := ⟨u_14_0, u_14_1, u_14_2, u_1_12, u_14_3, by decide +kernel⟩
theorem cw_RX6_105 : CW RX6 105 RX1 yX1_hasTimeFor cX1_hasTimeFor 2 (some .boolean) 1 := ⟨u_14_11, u_14_12, u_14_13, u_1_12, u_14_14, by decide +kernel⟩
theorem cw_RX6_111 : CW RX6 111 RX1 yX1_goTurns cX1_goTurns 4 (some .int) 1 := ⟨u_14_16, u_14_17, u_14_18, u_1_12, u_14_19, by decide +kernel⟩
theorem cw_RX6_157 : CW RX6 157 RX3 yX3_restoreLatest cX3_restoreLatest 2 none 1 := ⟨u_16_4, u_16_5, u_16_6, u_1_16, u_16_7, by decide +kernel⟩
set_option maxHeartbeats 4000000 in
set_option maxRecDepth 100000 in
theorem ct_X1_furthestPlace (l : Launch) (L : Lay) (g : St) (k d : Int) (hk : 0 ≤ k ∧ k < 9) (hw : wf g k d) (hd : 0 ≤ d ∧ d ≤ 1) : Met l yX1_furthestPlace (.code yX1_furthestPlace cX1_furthestPlace 3 (some .int) :: wsL_law) { frames := 1, cells := 0, slots := 0, locals := 21 } (va_Pc [.ref (adr L 1 k 0)] (HS L g)) (va_Qi (fun (r9 : Int32) (u9 : St) => r9 = iI (fur g k) ∧ u9 = g) (fun u t => HS L u t) (Af L)) 0 0 (Af L) := by
  refine ct_mk (by decide +kernel) (Nat.le_of_ble_eq_true rfl) ?_
  intro pp ee ss mm bel mth cx C hr hlk
  show V pp l ee { frames := 1, cells := 0, slots := 0, locals := 21 } ss mm ([.ref (adr L 1 k 0)]).toArray bel mth cx 3 L (HH L g) 0 0 _ 0 [(0, .ref (adr L 1 k 0))] []
  obtain ⟨hS0, hS1, hS2, hB0, hB1, hB2, hCl, hN, hPl, hPm, hPj, hEc, hSo⟩ := id hw
  have hp0 := hPl 0 (by omega) (by omega)
  have hp1 := hPl 1 (by omega) (by omega)
  have hp2 := hPl 2 (by omega) (by omega)
  have hp3 := hPl 3 (by omega) (by omega)
  refine v_aload_n (pc := 0) C 0 rfl rfl dX1_furthestPlace_0 ?_
  refine gt_1_4 (pc := 1) C ⟨by (first | assumption | omega | (simp [bl, up] <;> omega)), by (first | assumption | omega | (simp [bl, up] <;> omega))⟩ u_2_11 dX1_furthestPlace_1 ?_
  refine gt_3_0 (pc := 4) C ⟨by (first | assumption | omega | (simp [bl, up] <;> omega)), by (first | assumption | omega | (simp [bl, up] <;> omega))⟩ u_7_13 dX1_furthestPlace_4 (g 3 k 0 0) (rfl) ?_
  refine v_istore_n (pc := 7) C [(1, .int (iI (g 3 k 0 0))), (0, .ref (adr L 1 k 0))] rfl (by decide) rfl dX1_furthestPlace_7 ?_
  refine v_iconst (pc := 8) C dX1_furthestPlace_8 ?_
  refine v_istore_n (pc := 9) C [(2, .int (iI 0)), (1, .int (iI (g 3 k 0 0))), (0, .ref (adr L 1 k 0))] rfl (by decide) rfl dX1_furthestPlace_9 ?_
  refine v_iload_n (pc := 10) C 0 rfl rfl dX1_furthestPlace_10 ?_
  refine v_iconst (pc := 11) C dX1_furthestPlace_11 ?_
  refine v_icmp_ge (pc := 12) C 35 ⟨by (first | assumption | omega | (simp [bl, up] <;> omega)), by (first | assumption | omega | (simp [bl, up] <;> omega))⟩ ⟨by (first | assumption | omega | (simp [bl, up] <;> omega)), by (first | assumption | omega | (simp [bl, up] <;> omega))⟩ (by decide) dX1_furthestPlace_12 (fun h12 => ?_) (fun h12 => ?_)
  · skip
    exfalso; omega
  · skip
    refine v_iload_n (pc := 15) C 1 rfl rfl dX1_furthestPlace_15 ?_
    refine v_aload_n (pc := 16) C 2 rfl rfl dX1_furthestPlace_16 ?_
    refine gt_1_5 (pc := 17) C ⟨by (first | assumption | omega | (simp [bl, up] <;> omega)), by (first | assumption | omega | (simp [bl, up] <;> omega))⟩ u_2_13 dX1_furthestPlace_17 ?_
    refine v_iload_n (pc := 20) C 0 rfl rfl dX1_furthestPlace_20 ?_
    refine al_4 (pc := 21) C ⟨by (first | assumption | omega | (simp [bl, up] <;> omega)), by (first | assumption | omega | (simp [bl, up] <;> omega))⟩ ⟨by (first | assumption | omega | (simp [bl, up] <;> omega)), by (first | assumption | omega | (simp [bl, up] <;> omega))⟩ dX1_furthestPlace_21 ?_
    refine gt_6_0 (pc := 22) C ⟨⟨by (first | assumption | omega | (simp [bl, up] <;> omega)), by (first | assumption | omega | (simp [bl, up] <;> omega))⟩, ⟨by (first | assumption | omega | (simp [bl, up] <;> omega)), by (first | assumption | omega | (simp [bl, up] <;> omega))⟩⟩ u_4_23 dX1_furthestPlace_22 (g 6 k 0 0) (rfl) ?_
    refine v_max (pc := 25) C ⟨by (first | assumption | omega | (simp [bl, up] <;> omega)), by (first | assumption | omega | (simp [bl, up] <;> omega))⟩ ⟨by (first | assumption | omega | (simp [bl, up] <;> omega)), by (first | assumption | omega | (simp [bl, up] <;> omega))⟩ (z := max (g 3 k 0 0) (g 6 k 0 0)) (by simp only [Int.max_def, Int.min_def]; (repeat' split) <;> omega) u_5_4 u_5_5 u_5_6 u_5_7 (by decide) (Nat.le_of_ble_eq_true rfl) (by decide) (by decide) dX1_furthestPlace_25 ?_
    refine v_istore_n (pc := 28) C [(1, .int (iI (max (g 3 k 0 0) (g 6 k 0 0)))), (2, .int (iI 0)), (0, .ref (adr L 1 k 0))] rfl (by decide) rfl dX1_furthestPlace_28 ?_
    refine v_iinc (pc := 29) C 1 [(2, .int (iI 1)), (1, .int (iI (max (g 3 k 0 0) (g 6 k 0 0)))), (0, .ref (adr L 1 k 0))] rfl (by decide) rfl dX1_furthestPlace_29 ?_
    refine v_goto (pc := 32) C 10 (by decide) dX1_furthestPlace_32 ?_
    refine v_iload_n (pc := 10) C 0 rfl rfl dX1_furthestPlace_10 ?_
    refine v_iconst (pc := 11) C dX1_furthestPlace_11 ?_
    refine v_icmp_ge (pc := 12) C 35 ⟨by (first | assumption | omega | (simp [bl, up] <;> omega)), by (first | assumption | omega | (simp [bl, up] <;> omega))⟩ ⟨by (first | assumption | omega | (simp [bl, up] <;> omega)), by (first | assumption | omega | (simp [bl, up] <;> omega))⟩ (by decide) dX1_furthestPlace_12 (fun h12 => ?_) (fun h12 => ?_)
    · skip
      exfalso; omega
    · skip
      refine v_iload_n (pc := 15) C 1 rfl rfl dX1_furthestPlace_15 ?_
      refine v_aload_n (pc := 16) C 2 rfl rfl dX1_furthestPlace_16 ?_
      refine gt_1_5 (pc := 17) C ⟨by (first | assumption | omega | (simp [bl, up] <;> omega)), by (first | assumption | omega | (simp [bl, up] <;> omega))⟩ u_2_13 dX1_furthestPlace_17 ?_
      refine v_iload_n (pc := 20) C 0 rfl rfl dX1_furthestPlace_20 ?_
      refine al_4 (pc := 21) C ⟨by (first | assumption | omega | (simp [bl, up] <;> omega)), by (first | assumption | omega | (simp [bl, up] <;> omega))⟩ ⟨by (first | assumption | omega | (simp [bl, up] <;> omega)), by (first | assumption | omega | (simp [bl, up] <;> omega))⟩ dX1_furthestPlace_21 ?_
      refine gt_6_0 (pc := 22) C ⟨⟨by (first | assumption | omega | (simp [bl, up] <;> omega)), by (first | assumption | omega | (simp [bl, up] <;> omega))⟩, ⟨by (first | assumption | omega | (simp [bl, up] <;> omega)), by (first | assumption | omega | (simp [bl, up] <;> omega))⟩⟩ u_4_23 dX1_furthestPlace_22 (g 6 k 1 0) (rfl) ?_
      refine v_max (pc := 25) C ⟨by (first | assumption | omega | (simp [bl, up] <;> omega)), by (first | assumption | omega | (simp [bl, up] <;> omega))⟩ ⟨by (first | assumption | omega | (simp [bl, up] <;> omega)), by (first | assumption | omega | (simp [bl, up] <;> omega))⟩ (z := max (max (g 3 k 0 0) (g 6 k 0 0)) (g 6 k 1 0)) (by simp only [Int.max_def, Int.min_def]; (repeat' split) <;> omega) u_5_4 u_5_5 u_5_6 u_5_7 (by decide) (Nat.le_of_ble_eq_true rfl) (by decide) (by decide) dX1_furthestPlace_25 ?_
      refine v_istore_n (pc := 28) C [(1, .int (iI (max (max (g 3 k 0 0) (g 6 k 0 0)) (g 6 k 1 0)))), (2, .int (iI 1)), (0, .ref (adr L 1 k 0))] rfl (by decide) rfl dX1_furthestPlace_28 ?_
      refine v_iinc (pc := 29) C 1 [(2, .int (iI 2)), (1, .int (iI (max (max (g 3 k 0 0) (g 6 k 0 0)) (g 6 k 1 0)))), (0, .ref (adr L 1 k 0))] rfl (by decide) rfl dX1_furthestPlace_29 ?_
      refine v_goto (pc := 32) C 10 (by decide) dX1_furthestPlace_32 ?_
      refine v_iload_n (pc := 10) C 0 rfl rfl dX1_furthestPlace_10 ?_
      refine v_iconst (pc := 11) C dX1_furthestPlace_11 ?_
      refine v_icmp_ge (pc := 12) C 35 ⟨by (first | assumption | omega | (simp [bl, up] <;> omega)), by (first | assumption | omega | (simp [bl, up] <;> omega))⟩ ⟨by (first | assumption | omega | (simp [bl, up] <;> omega)), by (first | assumption | omega | (simp [bl, up] <;> omega))⟩ (by decide) dX1_furthestPlace_12 (fun h12 => ?_) (fun h12 => ?_)
      · skip
        exfalso; omega
      · skip
        refine v_iload_n (pc := 15) C 1 rfl rfl dX1_furthestPlace_15 ?_
        refine v_aload_n (pc := 16) C 2 rfl rfl dX1_furthestPlace_16 ?_
        refine gt_1_5 (pc := 17) C ⟨by (first | assumption | omega | (simp [bl, up] <;> omega)), by (first | assumption | omega | (simp [bl, up] <;> omega))⟩ u_2_13 dX1_furthestPlace_17 ?_
        refine v_iload_n (pc := 20) C 0 rfl rfl dX1_furthestPlace_20 ?_
        refine al_4 (pc := 21) C ⟨by (first | assumption | omega | (simp [bl, up] <;> omega)), by (first | assumption | omega | (simp [bl, up] <;> omega))⟩ ⟨by (first | assumption | omega | (simp [bl, up] <;> omega)), by (first | assumption | omega | (simp [bl, up] <;> omega))⟩ dX1_furthestPlace_21 ?_
        refine gt_6_0 (pc := 22) C ⟨⟨by (first | assumption | omega | (simp [bl, up] <;> omega)), by (first | assumption | omega | (simp [bl, up] <;> omega))⟩, ⟨by (first | assumption | omega | (simp [bl, up] <;> omega)), by (first | assumption | omega | (simp [bl, up] <;> omega))⟩⟩ u_4_23 dX1_furthestPlace_22 (g 6 k 2 0) (rfl) ?_
        refine v_max (pc := 25) C ⟨by (first | assumption | omega | (simp [bl, up] <;> omega)), by (first | assumption | omega | (simp [bl, up] <;> omega))⟩ ⟨by (first | assumption | omega | (simp [bl, up] <;> omega)), by (first | assumption | omega | (simp [bl, up] <;> omega))⟩ (z := max (max (max (g 3 k 0 0) (g 6 k 0 0)) (g 6 k 1 0)) (g 6 k 2 0)) (by simp only [Int.max_def, Int.min_def]; (repeat' split) <;> omega) u_5_4 u_5_5 u_5_6 u_5_7 (by decide) (Nat.le_of_ble_eq_true rfl) (by decide) (by decide) dX1_furthestPlace_25 ?_
        refine v_istore_n (pc := 28) C [(1, .int (iI (max (max (max (g 3 k 0 0) (g 6 k 0 0)) (g 6 k 1 0)) (g 6 k 2 0)))), (2, .int (iI 2)), (0, .ref (adr L 1 k 0))] rfl (by decide) rfl dX1_furthestPlace_28 ?_
        refine v_iinc (pc := 29) C 1 [(2, .int (iI 3)), (1, .int (iI (max (max (max (g 3 k 0 0) (g 6 k 0 0)) (g 6 k 1 0)) (g 6 k 2 0)))), (0, .ref (adr L 1 k 0))] rfl (by decide) rfl dX1_furthestPlace_29 ?_
        refine v_goto (pc := 32) C 10 (by decide) dX1_furthestPlace_32 ?_
        refine v_iload_n (pc := 10) C 0 rfl rfl dX1_furthestPlace_10 ?_
        refine v_iconst (pc := 11) C dX1_furthestPlace_11 ?_
        refine v_icmp_ge (pc := 12) C 35 ⟨by (first | assumption | omega | (simp [bl, up] <;> omega)), by (first | assumption | omega | (simp [bl, up] <;> omega))⟩ ⟨by (first | assumption | omega | (simp [bl, up] <;> omega)), by (first | assumption | omega | (simp [bl, up] <;> omega))⟩ (by decide) dX1_furthestPlace_12 (fun h12 => ?_) (fun h12 => ?_)
        · skip
          exfalso; omega
        · skip
          refine v_iload_n (pc := 15) C 1 rfl rfl dX1_furthestPlace_15 ?_
          refine v_aload_n (pc := 16) C 2 rfl rfl dX1_furthestPlace_16 ?_
          refine gt_1_5 (pc := 17) C ⟨by (first | assumption | omega | (simp [bl, up] <;> omega)), by (first | assumption | omega | (simp [bl, up] <;> omega))⟩ u_2_13 dX1_furthestPlace_17 ?_
          refine v_iload_n (pc := 20) C 0 rfl rfl dX1_furthestPlace_20 ?_
          refine al_4 (pc := 21) C ⟨by (first | assumption | omega | (simp [bl, up] <;> omega)), by (first | assumption | omega | (simp [bl, up] <;> omega))⟩ ⟨by (first | assumption | omega | (simp [bl, up] <;> omega)), by (first | assumption | omega | (simp [bl, up] <;> omega))⟩ dX1_furthestPlace_21 ?_
          refine gt_6_0 (pc := 22) C ⟨⟨by (first | assumption | omega | (simp [bl, up] <;> omega)), by (first | assumption | omega | (simp [bl, up] <;> omega))⟩, ⟨by (first | assumption | omega | (simp [bl, up] <;> omega)), by (first | assumption | omega | (simp [bl, up] <;> omega))⟩⟩ u_4_23 dX1_furthestPlace_22 (g 6 k 3 0) (rfl) ?_
          refine v_max (pc := 25) C ⟨by (first | assumption | omega | (simp [bl, up] <;> omega)), by (first | assumption | omega | (simp [bl, up] <;> omega))⟩ ⟨by (first | assumption | omega | (simp [bl, up] <;> omega)), by (first | assumption | omega | (simp [bl, up] <;> omega))⟩ (z := max (max (max (max (g 3 k 0 0) (g 6 k 0 0)) (g 6 k 1 0)) (g 6 k 2 0)) (g 6 k 3 0)) (by simp only [Int.max_def, Int.min_def]; (repeat' split) <;> omega) u_5_4 u_5_5 u_5_6 u_5_7 (by decide) (Nat.le_of_ble_eq_true rfl) (by decide) (by decide) dX1_furthestPlace_25 ?_
          refine v_istore_n (pc := 28) C [(1, .int (iI (max (max (max (max (g 3 k 0 0) (g 6 k 0 0)) (g 6 k 1 0)) (g 6 k 2 0)) (g 6 k 3 0)))), (2, .int (iI 3)), (0, .ref (adr L 1 k 0))] rfl (by decide) rfl dX1_furthestPlace_28 ?_
          refine v_iinc (pc := 29) C 1 [(2, .int (iI 4)), (1, .int (iI (max (max (max (max (g 3 k 0 0) (g 6 k 0 0)) (g 6 k 1 0)) (g 6 k 2 0)) (g 6 k 3 0)))), (0, .ref (adr L 1 k 0))] rfl (by decide) rfl dX1_furthestPlace_29 ?_
          refine v_goto (pc := 32) C 10 (by decide) dX1_furthestPlace_32 ?_
          refine v_iload_n (pc := 10) C 0 rfl rfl dX1_furthestPlace_10 ?_
          refine v_iconst (pc := 11) C dX1_furthestPlace_11 ?_
          refine v_icmp_ge (pc := 12) C 35 ⟨by (first | assumption | omega | (simp [bl, up] <;> omega)), by (first | assumption | omega | (simp [bl, up] <;> omega))⟩ ⟨by (first | assumption | omega | (simp [bl, up] <;> omega)), by (first | assumption | omega | (simp [bl, up] <;> omega))⟩ (by decide) dX1_furthestPlace_12 (fun h12 => ?_) (fun h12 => ?_)
          · skip
            refine v_iconst (pc := 35) C dX1_furthestPlace_35 ?_
            refine v_istore_n (pc := 36) C [(2, .int (iI 0)), (1, .int (iI (max (max (max (max (g 3 k 0 0) (g 6 k 0 0)) (g 6 k 1 0)) (g 6 k 2 0)) (g 6 k 3 0)))), (0, .ref (adr L 1 k 0))] rfl (by decide) rfl dX1_furthestPlace_36 ?_
            have lb37 : ∀ (n9 : Nat) (i : Int) (q : Int), (0 ≤ i ∧ i ≤ g 1 k 0 2) → (q = mxN (fun i => g 7 k (g 5 k 0 i) 1) i.toNat (mxN (fun j => g 6 k j 0) 4 (g 3 k 0 0))) → (0 ≤ q ∧ q ≤ g 2 k 0 0) → (g 1 k 0 2 - i).toNat < n9 → V pp l ee { frames := 1, cells := 0, slots := 0, locals := 21 } ss mm ([.ref (adr L 1 k 0)]).toArray bel mth cx 3 L (HH L g) 0 0 (MQ bel (va_Qi (fun (r9 : Int32) (u9 : St) => r9 = iI (fur g k) ∧ u9 = g) (fun u t => HS L u t) (Af L)) ([.ref (adr L 1 k 0)]).toArray ss 0 0 (Af L)) 37 [(0, .ref (adr L 1 k 0)), (1, .int (iI q)), (2, .int (iI i))] [] := by
              intro n9
              induction n9 with
              | zero => intro i q hi hq hqq hm9; exact absurd hm9 (Nat.not_lt_zero _)
              | succ n9 ih9 =>
                intro i q hi hq hqq hm9
                have ih37 := ih9
                refine v_iload_n (pc := 37) C 2 rfl rfl dX1_furthestPlace_37 ?_
                refine v_aload_n (pc := 38) C 0 rfl rfl dX1_furthestPlace_38 ?_
                refine gt_1_2 (pc := 39) C ⟨by (first | assumption | omega | (simp [bl, up] <;> omega)), by (first | assumption | omega | (simp [bl, up] <;> omega))⟩ u_6_2 dX1_furthestPlace_39 (g 1 k 0 2) (rfl) ?_
                refine v_icmp_ge (pc := 42) C 65 ⟨by (first | assumption | omega | (simp [bl, up] <;> omega)), by (first | assumption | omega | (simp [bl, up] <;> omega))⟩ ⟨by (first | assumption | omega | (simp [bl, up] <;> omega)), by (first | assumption | omega | (simp [bl, up] <;> omega))⟩ (by decide) dX1_furthestPlace_42 (fun h42 => ?_) (fun h42 => ?_)
                · skip
                  refine v_iload_n (pc := 65) C 1 rfl rfl dX1_furthestPlace_65 ?_
                  exact v_iret (pc := 66) C hr hlk (⟨congrArg iI (by rw [hq, show i = g 1 k 0 2 by omega]; rfl), rfl⟩) dX1_furthestPlace_66
                · skip
                  refine v_iload_n (pc := 45) C 1 rfl rfl dX1_furthestPlace_45 ?_
                  refine v_aload_n (pc := 46) C 0 rfl rfl dX1_furthestPlace_46 ?_
                  refine gt_1_6 (pc := 47) C ⟨by (first | assumption | omega | (simp [bl, up] <;> omega)), by (first | assumption | omega | (simp [bl, up] <;> omega))⟩ u_2_15 dX1_furthestPlace_47 ?_
                  refine v_iload_n (pc := 50) C 2 rfl rfl dX1_furthestPlace_50 ?_
                  refine al_5 (pc := 51) C ⟨by (first | assumption | omega | (simp [bl, up] <;> omega)), by (first | assumption | omega | (simp [bl, up] <;> omega))⟩ ⟨by (first | assumption | omega | (simp [bl, up] <;> omega)), by (first | assumption | omega | (simp [bl, up] <;> omega))⟩ dX1_furthestPlace_51 (g 5 k 0 i) (rfl) ?_
                  have hp51 := hPm i (by first | assumption | omega | (simp [bl, up] <;> omega)) (by first | assumption | omega | (simp [bl, up] <;> omega))
                  have he51 := hEc i (by first | assumption | omega | (simp [bl, up] <;> omega)) (by first | assumption | omega | (simp [bl, up] <;> omega))
                  unfold okE at he51
                  refine gt_7_1 (pc := 52) C ⟨⟨by (first | assumption | omega | (simp [bl, up] <;> omega)), by (first | assumption | omega | (simp [bl, up] <;> omega))⟩, ⟨by (first | assumption | omega | (simp [bl, up] <;> omega)), by (first | assumption | omega | (simp [bl, up] <;> omega))⟩⟩ u_9_9 dX1_furthestPlace_52 (g 7 k (g 5 k 0 i) 1) (rfl) ?_
                  refine v_max (pc := 55) C ⟨by (first | assumption | omega | (simp [bl, up] <;> omega)), by (first | assumption | omega | (simp [bl, up] <;> omega))⟩ ⟨by (first | assumption | omega | (simp [bl, up] <;> omega)), by (first | assumption | omega | (simp [bl, up] <;> omega))⟩ (z := max q (g 7 k (g 5 k 0 i) 1)) (by simp only [Int.max_def, Int.min_def]; (repeat' split) <;> omega) u_5_4 u_5_5 u_5_6 u_5_7 (by decide) (Nat.le_of_ble_eq_true rfl) (by decide) (by decide) dX1_furthestPlace_55 ?_
                  refine v_istore_n (pc := 58) C [(1, .int (iI (max q (g 7 k (g 5 k 0 i) 1)))), (0, .ref (adr L 1 k 0)), (2, .int (iI i))] rfl (by decide) rfl dX1_furthestPlace_58 ?_
                  refine v_iinc (pc := 59) C 2 [(2, .int (iI (i + 1))), (1, .int (iI (max q (g 7 k (g 5 k 0 i) 1)))), (0, .ref (adr L 1 k 0))] rfl (by decide) rfl dX1_furthestPlace_59 ?_
                  refine v_goto (pc := 62) C 37 (by decide) dX1_furthestPlace_62 ?_
                  refine v_lsub [2, 1, 0] rfl ?_
                  exact ih37 (i + 1) (max q (g 7 k (g 5 k 0 i) 1)) (by omega) (by rw [mxN_s hi.1, hq]) (by omega) (by omega)
            refine v_lsub [2, 1, 0] rfl ?_
            exact lb37 _ 0 (max (max (max (max (g 3 k 0 0) (g 6 k 0 0)) (g 6 k 1 0)) (g 6 k 2 0)) (g 6 k 3 0)) (by omega) (by rfl) (by omega) (Nat.lt_succ_self _)
          · skip
            exfalso; omega
set_option maxHeartbeats 4000000 in
set_option maxRecDepth 100000 in
theorem ct_X6_checkPlayer (l : Launch) (L : Lay) (g : St) (p : Int) (hp : 0 ≤ p ∧ p < 4) : Met l yX6_checkPlayer (.code yX6_checkPlayer cX6_checkPlayer 1 none :: wsL_law) { frames := 0, cells := 0, slots := 0, locals := 0 } (va_Pc [.int (iI p)] (HS L g)) (va_Qv (fun (u9 : St) => u9 = g) (fun u t => HS L u t) (Af L)) 0 0 (Af L) := by
  refine ct_mk (by decide +kernel) (Nat.le_of_ble_eq_true rfl) ?_
  intro pp ee ss mm bel mth cx C hr hlk
  show V pp l ee { frames := 0, cells := 0, slots := 0, locals := 0 } ss mm ([.int (iI p)]).toArray bel mth cx 1 L (HH L g) 0 0 _ 0 [(0, .int (iI p))] []
  refine v_iload_n (pc := 0) C 0 rfl rfl dX6_checkPlayer_0 ?_
  refine v_if_lt (pc := 1) C 9 ⟨by (first | assumption | omega | (simp [bl, up] <;> omega)), by (first | assumption | omega | (simp [bl, up] <;> omega))⟩ (by decide) dX6_checkPlayer_1 (fun h1 => ?_) (fun h1 => ?_)
  · skip
    exfalso; omega
  · skip
    refine v_iload_n (pc := 4) C 0 rfl rfl dX6_checkPlayer_4 ?_
    refine v_iconst (pc := 5) C dX6_checkPlayer_5 ?_
    refine v_icmp_lt (pc := 6) C 19 ⟨by (first | assumption | omega | (simp [bl, up] <;> omega)), by (first | assumption | omega | (simp [bl, up] <;> omega))⟩ ⟨by (first | assumption | omega | (simp [bl, up] <;> omega)), by (first | assumption | omega | (simp [bl, up] <;> omega))⟩ (by decide) dX6_checkPlayer_6 (fun h6 => ?_) (fun h6 => ?_)
    · skip
      exact v_vret (pc := 19) C hr hlk (rfl) dX6_checkPlayer_19
    · skip
      exfalso; omega
set_option maxHeartbeats 4000000 in
set_option maxRecDepth 100000 in
theorem ct_X6_checkSetting (l : Launch) (L : Lay) (g : St) (p : Int) (hp : 0 ≤ p ∧ p < 3) : Met l yX6_checkSetting (.code yX6_checkSetting cX6_checkSetting 1 none :: wsL_law) { frames := 0, cells := 0, slots := 0, locals := 0 } (va_Pc [.int (iI p)] (HS L g)) (va_Qv (fun (u9 : St) => u9 = g) (fun u t => HS L u t) (Af L)) 0 0 (Af L) := by
  refine ct_mk (by decide +kernel) (Nat.le_of_ble_eq_true rfl) ?_
  intro pp ee ss mm bel mth cx C hr hlk
  show V pp l ee { frames := 0, cells := 0, slots := 0, locals := 0 } ss mm ([.int (iI p)]).toArray bel mth cx 1 L (HH L g) 0 0 _ 0 [(0, .int (iI p))] []
  refine v_iload_n (pc := 0) C 0 rfl rfl dX6_checkSetting_0 ?_
  refine v_if_lt (pc := 1) C 9 ⟨by (first | assumption | omega | (simp [bl, up] <;> omega)), by (first | assumption | omega | (simp [bl, up] <;> omega))⟩ (by decide) dX6_checkSetting_1 (fun h1 => ?_) (fun h1 => ?_)
  · skip
    exfalso; omega
  · skip
    refine v_iload_n (pc := 4) C 0 rfl rfl dX6_checkSetting_4 ?_
    refine v_iconst (pc := 5) C dX6_checkSetting_5 ?_
    refine v_icmp_lt (pc := 6) C 19 ⟨by (first | assumption | omega | (simp [bl, up] <;> omega)), by (first | assumption | omega | (simp [bl, up] <;> omega))⟩ ⟨by (first | assumption | omega | (simp [bl, up] <;> omega)), by (first | assumption | omega | (simp [bl, up] <;> omega))⟩ (by decide) dX6_checkSetting_6 (fun h6 => ?_) (fun h6 => ?_)
    · skip
      exact v_vret (pc := 19) C hr hlk (rfl) dX6_checkSetting_19
    · skip
      exfalso; omega
set_option maxHeartbeats 4000000 in
set_option maxRecDepth 100000 in
theorem ct_X6_checkRange (l : Launch) (L : Lay) (g : St) (p a b : Int) (hrp : rg p) (hra : rg a) (hrb : rg b) (hpp : a ≤ p ∧ p ≤ b) : Met l yX6_checkRange (.code yX6_checkRange cX6_checkRange 3 none :: wsL_law) { frames := 0, cells := 0, slots := 0, locals := 0 } (va_Pc [.int (iI p), .int (iI a), .int (iI b)] (HS L g)) (va_Qv (fun (u9 : St) => u9 = g) (fun u t => HS L u t) (Af L)) 0 0 (Af L) := by
  refine ct_mk (by decide +kernel) (Nat.le_of_ble_eq_true rfl) ?_
  intro pp ee ss mm bel mth cx C hr hlk
  show V pp l ee { frames := 0, cells := 0, slots := 0, locals := 0 } ss mm ([.int (iI p), .int (iI a), .int (iI b)]).toArray bel mth cx 3 L (HH L g) 0 0 _ 0 [(0, .int (iI p)), (1, .int (iI a)), (2, .int (iI b))] []
  unfold rg at hrp hra hrb
  refine v_iload_n (pc := 0) C 0 rfl rfl dX6_checkRange_0 ?_
  refine v_iload_n (pc := 1) C 1 rfl rfl dX6_checkRange_1 ?_
  refine v_icmp_lt (pc := 2) C 10 ⟨by (first | assumption | omega | (simp [bl, up] <;> omega)), by (first | assumption | omega | (simp [bl, up] <;> omega))⟩ ⟨by (first | assumption | omega | (simp [bl, up] <;> omega)), by (first | assumption | omega | (simp [bl, up] <;> omega))⟩ (by decide) dX6_checkRange_2 (fun h2 => ?_) (fun h2 => ?_)
  · skip
    exfalso; omega
  · skip
    refine v_iload_n (pc := 5) C 0 rfl rfl dX6_checkRange_5 ?_
    refine v_iload_n (pc := 6) C 2 rfl rfl dX6_checkRange_6 ?_
    refine v_icmp_le (pc := 7) C 20 ⟨by (first | assumption | omega | (simp [bl, up] <;> omega)), by (first | assumption | omega | (simp [bl, up] <;> omega))⟩ ⟨by (first | assumption | omega | (simp [bl, up] <;> omega)), by (first | assumption | omega | (simp [bl, up] <;> omega))⟩ (by decide) dX6_checkRange_7 (fun h7 => ?_) (fun h7 => ?_)
    · skip
      exact v_vret (pc := 20) C hr hlk (rfl) dX6_checkRange_20
    · skip
      exfalso; omega
set_option maxHeartbeats 4000000 in
set_option maxRecDepth 100000 in
theorem ct_X6_call (l : Launch) (L : Lay) (g : St) (p w : Int) (hp : 0 ≤ p ∧ p < 4) (hww : 0 ≤ w ∧ w ≤ 9) (hh : wh g) (hA : wA g) (h6 : ∀ p, 0 ≤ p → p < 4 → eOf g 0 p + 2 ≤ 6 → g 1 0 0 2 + 2 ≤ 24) : Met l yX6_call (.code yX6_call cX6_call 3 (some .int) :: wsL_law) { frames := 4, cells := 0, slots := 0, locals := 94 } (va_Pc [.ref (adr L 0 0 0), .int (iI p), .int (iI w)] (HS L g)) (va_Qi (fun (r9 : Int32) (u : St) => ∃ z : Int, r9 = iI z ∧ (se (svG g 0) u 0 p w z)) (fun u t => HS L u t) (Af L)) 0 0 (Af L) := by
  refine ct_mk (by decide +kernel) (Nat.le_of_ble_eq_true rfl) ?_
  intro pp ee ss mm bel mth cx C hr hlk
  show V pp l ee { frames := 4, cells := 0, slots := 0, locals := 94 } ss mm ([.ref (adr L 0 0 0), .int (iI p), .int (iI w)]).toArray bel mth cx 3 L (HH L g) 0 0 _ 0 [(0, .ref (adr L 0 0 0)), (1, .int (iI p)), (2, .int (iI w))] []
  have hws : wf (svG g 0) 0 1 := wf_fk (svG_0 hh) (hA 0 (by omega) (by omega))
  refine v_iload_n (pc := 0) C 1 rfl rfl dX6_call_0 ?_
  refine v_callvS (pc := 1) C cw_RX6_45 (ct_X6_checkPlayer l L g p (by first | assumption | omega | (unfold rg; omega))) ⟨Nat.le_of_ble_eq_true rfl, Nat.le_of_ble_eq_true rfl⟩ rfl (Nat.le_of_ble_eq_true rfl) ⟨Nat.le_of_ble_eq_true rfl, Nat.le_of_ble_eq_true rfl⟩ rfl dX6_call_1 (fun u9 hP_1 => ?_)
  rw [hP_1]
  clear hP_1 u9
  refine v_iload_n (pc := 4) C 2 rfl rfl dX6_call_4 ?_
  refine v_iconst (pc := 5) C dX6_call_5 ?_
  refine v_bipush (pc := 6) C rfl dX6_call_6 ?_
  refine v_callvS (pc := 8) C cw_RX6_49 (ct_X6_checkRange l L g w 0 9 (by first | assumption | omega | (unfold rg; omega)) (by first | assumption | omega | (unfold rg; omega)) (by first | assumption | omega | (unfold rg; omega)) (by first | assumption | omega | (unfold rg; omega))) ⟨Nat.le_of_ble_eq_true rfl, Nat.le_of_ble_eq_true rfl⟩ rfl (Nat.le_of_ble_eq_true rfl) ⟨Nat.le_of_ble_eq_true rfl, Nat.le_of_ble_eq_true rfl⟩ rfl dX6_call_8 (fun u9 hP_2 => ?_)
  rw [hP_2]
  clear hP_2 u9
  refine v_aload_n (pc := 11) C 0 rfl rfl dX6_call_11 ?_
  refine gt_0_1 (pc := 12) C u_1_17 dX6_call_12 ?_
  refine v_aload_n (pc := 15) C 0 rfl rfl dX6_call_15 ?_
  refine gt_0_0 (pc := 16) C u_1_13 dX6_call_16 ?_
  refine v_callvV (pc := 19) C cw_RX6_53 rcv_8 (ct_X3_save l L g 0 (by first | assumption | omega | (unfold rg; omega)) (by first | assumption | omega | (unfold rg; omega)) (by first | assumption | omega | (unfold rg; omega))) ⟨Nat.le_of_ble_eq_true rfl, Nat.le_of_ble_eq_true rfl⟩ rfl (Nat.le_of_ble_eq_true rfl) ⟨Nat.le_of_ble_eq_true rfl, Nat.le_of_ble_eq_true rfl⟩ rfl dX6_call_19 (fun u9 hP_3 => ?_)
  rw [hP_3]
  clear hP_3 u9
  refine v_aload_n (pc := 22) C 0 rfl rfl dX6_call_22 ?_
  refine gt_0_0 (pc := 23) C u_1_13 dX6_call_23 ?_
  refine v_iload_n (pc := 26) C 1 rfl rfl dX6_call_26 ?_
  refine v_iload_n (pc := 27) C 2 rfl rfl dX6_call_27 ?_
  refine v_calliV (pc := 28) C cw_RX6_57 (rcv_1 ⟨by (first | assumption | omega | (unfold rg; omega)), by (first | assumption | omega | (unfold rg; omega))⟩) (ct_X1_sendEchoes l L (svG g 0) 0 p w (by first | assumption | omega | (unfold rg; omega)) (by exact hws) (by first | assumption | omega | (unfold rg; omega)) (by first | assumption | omega | (unfold rg; omega)) (by rw [eOf_fk (svG_0 hh), svG_0 hh 1 (by decide) (by decide)]; exact h6 p hp.1 hp.2)) ⟨Nat.le_of_ble_eq_true rfl, Nat.le_of_ble_eq_true rfl⟩ rfl (Nat.le_of_ble_eq_true rfl) ⟨Nat.le_of_ble_eq_true rfl, Nat.le_of_ble_eq_true rfl⟩ rfl dX6_call_28 (fun r9 u_5 hP_4 => ?_)
  obtain ⟨z_6, rfl, hP_4⟩ := hP_4
  exact v_iret (pc := 31) C hr hlk (⟨_, rfl, hP_4⟩) dX6_call_31
set_option maxHeartbeats 4000000 in
set_option maxRecDepth 100000 in
theorem ct_X6_walk (l : Launch) (L : Lay) (g : St) (p b : Int) (hp : 0 ≤ p ∧ p < 4) (hb : -9 ≤ b ∧ b ≤ 9) (hh : wh g) (hA : wA g) : Met l yX6_walk (.code yX6_walk cX6_walk 3 (some .int) :: wsL_law) { frames := 3, cells := 0, slots := 0, locals := 64 } (va_Pc [.ref (adr L 0 0 0), .int (iI p), .int (iI b)] (HS L g)) (va_Qi (fun (r9 : Int32) (u9 : St) => r9 = iI (mvR (svG g 0) 0 p b) ∧ u9 = (mvG (svG g 0) 0 p b)) (fun u t => HS L u t) (Af L)) 0 0 (Af L) := by
  refine ct_mk (by decide +kernel) (Nat.le_of_ble_eq_true rfl) ?_
  intro pp ee ss mm bel mth cx C hr hlk
  show V pp l ee { frames := 3, cells := 0, slots := 0, locals := 64 } ss mm ([.ref (adr L 0 0 0), .int (iI p), .int (iI b)]).toArray bel mth cx 3 L (HH L g) 0 0 _ 0 [(0, .ref (adr L 0 0 0)), (1, .int (iI p)), (2, .int (iI b))] []
  have hws : wf (svG g 0) 0 1 := wf_fk (svG_0 hh) (hA 0 (by omega) (by omega))
  refine v_iload_n (pc := 0) C 1 rfl rfl dX6_walk_0 ?_
  refine v_callvS (pc := 1) C cw_RX6_45 (ct_X6_checkPlayer l L g p (by first | assumption | omega | (unfold rg; omega))) ⟨Nat.le_of_ble_eq_true rfl, Nat.le_of_ble_eq_true rfl⟩ rfl (Nat.le_of_ble_eq_true rfl) ⟨Nat.le_of_ble_eq_true rfl, Nat.le_of_ble_eq_true rfl⟩ rfl dX6_walk_1 (fun u9 hP_1 => ?_)
  rw [hP_1]
  clear hP_1 u9
  refine v_iload_n (pc := 4) C 2 rfl rfl dX6_walk_4 ?_
  refine v_bipush (pc := 5) C rfl dX6_walk_5 ?_
  refine v_bipush (pc := 7) C rfl dX6_walk_7 ?_
  refine v_callvS (pc := 9) C cw_RX6_49 (ct_X6_checkRange l L g b (-9) 9 (by first | assumption | omega | (unfold rg; omega)) (by first | assumption | omega | (unfold rg; omega)) (by first | assumption | omega | (unfold rg; omega)) (by first | assumption | omega | (unfold rg; omega))) ⟨Nat.le_of_ble_eq_true rfl, Nat.le_of_ble_eq_true rfl⟩ rfl (Nat.le_of_ble_eq_true rfl) ⟨Nat.le_of_ble_eq_true rfl, Nat.le_of_ble_eq_true rfl⟩ rfl dX6_walk_9 (fun u9 hP_2 => ?_)
  rw [hP_2]
  clear hP_2 u9
  refine v_aload_n (pc := 12) C 0 rfl rfl dX6_walk_12 ?_
  refine gt_0_1 (pc := 13) C u_1_17 dX6_walk_13 ?_
  refine v_aload_n (pc := 16) C 0 rfl rfl dX6_walk_16 ?_
  refine gt_0_0 (pc := 17) C u_1_13 dX6_walk_17 ?_
  refine v_callvV (pc := 20) C cw_RX6_53 rcv_8 (ct_X3_save l L g 0 (by first | assumption | omega | (unfold rg; omega)) (by first | assumption | omega | (unfold rg; omega)) (by first | assumption | omega | (unfold rg; omega))) ⟨Nat.le_of_ble_eq_true rfl, Nat.le_of_ble_eq_true rfl⟩ rfl (Nat.le_of_ble_eq_true rfl) ⟨Nat.le_of_ble_eq_true rfl, Nat.le_of_ble_eq_true rfl⟩ rfl dX6_walk_20 (fun u9 hP_3 => ?_)
  rw [hP_3]
  clear hP_3 u9
  refine v_aload_n (pc := 23) C 0 rfl rfl dX6_walk_23 ?_
  refine gt_0_0 (pc := 24) C u_1_13 dX6_walk_24 ?_
  refine v_iload_n (pc := 27) C 1 rfl rfl dX6_walk_27 ?_
  refine v_iload_n (pc := 28) C 2 rfl rfl dX6_walk_28 ?_
  refine v_calliV (pc := 29) C cw_RX6_61 (rcv_1 ⟨by (first | assumption | omega | (unfold rg; omega)), by (first | assumption | omega | (unfold rg; omega))⟩) (ct_X1_movePlayer l L (svG g 0) 0 1 p b (by first | assumption | omega | (unfold rg; omega)) (by first | assumption | omega | (unfold rg; omega)) (by first | assumption | omega | (unfold rg; omega)) (by first | assumption | omega | (unfold rg; omega)) (by first | assumption | omega | (unfold rg; omega))) ⟨Nat.le_of_ble_eq_true rfl, Nat.le_of_ble_eq_true rfl⟩ rfl (Nat.le_of_ble_eq_true rfl) ⟨Nat.le_of_ble_eq_true rfl, Nat.le_of_ble_eq_true rfl⟩ rfl dX6_walk_29 (fun r9 u9 hP_4 => ?_)
  obtain ⟨hP_4, hP_4b⟩ := hP_4
  rw [hP_4, hP_4b]
  clear hP_4 hP_4b r9 u9
  exact v_iret (pc := 32) C hr hlk (⟨rfl, rfl⟩) dX6_walk_32
set_option maxHeartbeats 4000000 in
set_option maxRecDepth 100000 in
theorem ct_X6_throwBall (l : Launch) (L : Lay) (g : St) (a b q : Int) (ha : 0 ≤ a ∧ a ≤ g 2 0 0 0) (hb : 1 ≤ b ∧ b ≤ 9) (hq : q = 0 ∨ q = 1) (hh : wh g) (hA : wA g) : Met l yX6_throwBall (.code yX6_throwBall cX6_throwBall 5 (some .int) :: wsL_law) { frames := 3, cells := 0, slots := 0, locals := 64 } (va_Pc [.ref (adr L 0 0 0), .int (iI a), .int (iI b), .int (iI q)] (HS L g)) (va_Qi (fun (r9 : Int32) (u9 : St) => r9 = iI (g 3 0 0 0) ∧ u9 = (up (up (up (svG g 0) 3 0 0 0 a) 3 0 0 1 b) 3 0 0 2 q)) (fun u t => HS L u t) (Af L)) 0 0 (Af L) := by
  refine ct_mk (by decide +kernel) (Nat.le_of_ble_eq_true rfl) ?_
  intro pp ee ss mm bel mth cx C hr hlk
  show V pp l ee { frames := 3, cells := 0, slots := 0, locals := 64 } ss mm ([.ref (adr L 0 0 0), .int (iI a), .int (iI b), .int (iI q)]).toArray bel mth cx 5 L (HH L g) 0 0 _ 0 [(0, .ref (adr L 0 0 0)), (1, .int (iI a)), (2, .int (iI b)), (3, .int (iI q))] []
  have hS0 := (hA 0 (by omega) (by omega)).1
  refine v_iload_n (pc := 0) C 1 rfl rfl dX6_throwBall_0 ?_
  refine v_iconst (pc := 1) C dX6_throwBall_1 ?_
  refine v_aload_n (pc := 2) C 0 rfl rfl dX6_throwBall_2 ?_
  refine gt_0_0 (pc := 3) C u_1_13 dX6_throwBall_3 ?_
  refine v_calliV (pc := 6) C cw_RX6_64 (rcv_1 ⟨by (first | assumption | omega | (unfold rg; omega)), by (first | assumption | omega | (unfold rg; omega))⟩) (ct_X1_lastPlace l L g 0 (by first | assumption | omega | (unfold rg; omega))) ⟨Nat.le_of_ble_eq_true rfl, Nat.le_of_ble_eq_true rfl⟩ rfl (Nat.le_of_ble_eq_true rfl) ⟨Nat.le_of_ble_eq_true rfl, Nat.le_of_ble_eq_true rfl⟩ rfl dX6_throwBall_6 (fun r9 u9 hP_1 => ?_)
  obtain ⟨hP_1, hP_1b⟩ := hP_1
  rw [hP_1, hP_1b]
  clear hP_1 hP_1b r9 u9
  refine v_callvS (pc := 9) C cw_RX6_49 (ct_X6_checkRange l L g a 0 (g 2 0 0 0) (by first | assumption | omega | (unfold rg; omega)) (by first | assumption | omega | (unfold rg; omega)) (by first | assumption | omega | (unfold rg; omega)) (by first | assumption | omega | (unfold rg; omega))) ⟨Nat.le_of_ble_eq_true rfl, Nat.le_of_ble_eq_true rfl⟩ rfl (Nat.le_of_ble_eq_true rfl) ⟨Nat.le_of_ble_eq_true rfl, Nat.le_of_ble_eq_true rfl⟩ rfl dX6_throwBall_9 (fun u9 hP_2 => ?_)
  rw [hP_2]
  clear hP_2 u9
  refine v_iload_n (pc := 12) C 2 rfl rfl dX6_throwBall_12 ?_
  refine v_iconst (pc := 13) C dX6_throwBall_13 ?_
  refine v_bipush (pc := 14) C rfl dX6_throwBall_14 ?_
  refine v_callvS (pc := 16) C cw_RX6_49 (ct_X6_checkRange l L g b 1 9 (by first | assumption | omega | (unfold rg; omega)) (by first | assumption | omega | (unfold rg; omega)) (by first | assumption | omega | (unfold rg; omega)) (by first | assumption | omega | (unfold rg; omega))) ⟨Nat.le_of_ble_eq_true rfl, Nat.le_of_ble_eq_true rfl⟩ rfl (Nat.le_of_ble_eq_true rfl) ⟨Nat.le_of_ble_eq_true rfl, Nat.le_of_ble_eq_true rfl⟩ rfl dX6_throwBall_16 (fun u9 hP_3 => ?_)
  rw [hP_3]
  clear hP_3 u9
  refine v_aload_n (pc := 19) C 0 rfl rfl dX6_throwBall_19 ?_
  refine gt_0_1 (pc := 20) C u_1_17 dX6_throwBall_20 ?_
  refine v_aload_n (pc := 23) C 0 rfl rfl dX6_throwBall_23 ?_
  refine gt_0_0 (pc := 24) C u_1_13 dX6_throwBall_24 ?_
  refine v_callvV (pc := 27) C cw_RX6_53 rcv_8 (ct_X3_save l L g 0 (by first | assumption | omega | (unfold rg; omega)) (by first | assumption | omega | (unfold rg; omega)) (by first | assumption | omega | (unfold rg; omega))) ⟨Nat.le_of_ble_eq_true rfl, Nat.le_of_ble_eq_true rfl⟩ rfl (Nat.le_of_ble_eq_true rfl) ⟨Nat.le_of_ble_eq_true rfl, Nat.le_of_ble_eq_true rfl⟩ rfl dX6_throwBall_27 (fun u9 hP_4 => ?_)
  rw [hP_4]
  clear hP_4 u9
  refine v_aload_n (pc := 30) C 0 rfl rfl dX6_throwBall_30 ?_
  refine gt_0_0 (pc := 31) C u_1_13 dX6_throwBall_31 ?_
  refine gt_1_4 (pc := 34) C ⟨by (first | assumption | omega | (unfold rg; omega)), by (first | assumption | omega | (unfold rg; omega))⟩ u_13_3 dX6_throwBall_34 ?_
  refine gt_3_0 (pc := 37) C ⟨by (first | assumption | omega | (unfold rg; omega)), by (first | assumption | omega | (unfold rg; omega))⟩ u_13_4 dX6_throwBall_37 (g 3 0 0 0) (by rw [svG_0 hh 3 (by decide) (by decide)]) ?_
  refine v_istore (pc := 40) C [(4, .int (iI (g 3 0 0 0))), (0, .ref (adr L 0 0 0)), (1, .int (iI a)), (2, .int (iI b)), (3, .int (iI q))] (by decide) rfl dX6_throwBall_40 ?_
  refine v_aload_n (pc := 42) C 1 rfl rfl dX6_throwBall_42 ?_
  refine gt_0_0 (pc := 43) C u_1_13 dX6_throwBall_43 ?_
  refine gt_1_4 (pc := 46) C ⟨by (first | assumption | omega | (unfold rg; omega)), by (first | assumption | omega | (unfold rg; omega))⟩ u_13_3 dX6_throwBall_46 ?_
  refine v_iload_n (pc := 49) C 2 rfl rfl dX6_throwBall_49 ?_
  refine pt_3_0 (pc := 50) C ⟨by (first | assumption | omega | (unfold rg; omega)), by (first | assumption | omega | (unfold rg; omega))⟩ u_13_4 dX6_throwBall_50 ?_
  refine v_aload_n (pc := 53) C 1 rfl rfl dX6_throwBall_53 ?_
  refine gt_0_0 (pc := 54) C u_1_13 dX6_throwBall_54 ?_
  refine gt_1_4 (pc := 57) C ⟨by (first | assumption | omega | (unfold rg; omega)), by (first | assumption | omega | (unfold rg; omega))⟩ u_13_3 dX6_throwBall_57 ?_
  refine v_iload_n (pc := 60) C 3 rfl rfl dX6_throwBall_60 ?_
  refine pt_3_1 (pc := 61) C ⟨by (first | assumption | omega | (unfold rg; omega)), by (first | assumption | omega | (unfold rg; omega))⟩ u_13_5 dX6_throwBall_61 ?_
  refine v_aload_n (pc := 64) C 1 rfl rfl dX6_throwBall_64 ?_
  refine gt_0_0 (pc := 65) C u_1_13 dX6_throwBall_65 ?_
  refine gt_1_4 (pc := 68) C ⟨by (first | assumption | omega | (unfold rg; omega)), by (first | assumption | omega | (unfold rg; omega))⟩ u_13_3 dX6_throwBall_68 ?_
  refine v_iload_n (pc := 71) C 4 rfl rfl dX6_throwBall_71 ?_
  refine pt_3_2 (pc := 72) C ⟨by (first | assumption | omega | (unfold rg; omega)), by (first | assumption | omega | (unfold rg; omega))⟩ u_13_6 (by (first | assumption | omega | (unfold rg; omega))) dX6_throwBall_72 ?_
  refine v_iload (pc := 75) C 0 rfl dX6_throwBall_75 ?_
  exact v_iret (pc := 77) C hr hlk (⟨rfl, rfl⟩) dX6_throwBall_77
set_option maxHeartbeats 4000000 in
set_option maxRecDepth 100000 in
theorem ct_X6_set (l : Launch) (L : Lay) (hfl : l.flags = flags0) (g : St) (a v : Int) (ha : 0 ≤ a ∧ a < 3) (hv : lsV a ≤ v ∧ v ≤ msV a) (hh : wh g) (hA : wA g) : vx_Met l yX6_set (.code yX6_set cX6_set 4 (some .int) :: wsL_law) { frames := 6, cells := 1, slots := 6, locals := 90 } (va_Pc [.ref (adr L 0 0 0), .int (iI a), .int (iI v)] (HS L g)) (va_Qi (fun (r9 : Int32) (u9 : St) => r9 = iI (g 2 0 0 a) ∧ u9 = (up (svG g 0) 2 0 0 a v) ∧ ((a = 0 → fur g 0 ≤ v))) (fun u t => HS L u t) (Af L)) (XX L g (fun E => E = eIS ∧ a = 0 ∧ v < fur g 0)) 1 6 (Af L) := by
  refine ct_mkX (by decide +kernel) (Nat.le_of_ble_eq_true rfl) ?_
  intro pp ee ss mm bel mth cx C hr hlk htab
  show V pp l ee { frames := 6, cells := 1, slots := 6, locals := 90 } ss mm ([.ref (adr L 0 0 0), .int (iI a), .int (iI v)]).toArray bel mth cx 4 L (HH L g) 0 0 _ 0 [(0, .ref (adr L 0 0 0)), (1, .int (iI a)), (2, .int (iI v))] []
  obtain ⟨t1, t2, t3, ⟨hZ1, hT1⟩, ⟨hZ2, hT2⟩, ⟨hZ3, hT3⟩⟩ := C.2.2.2.2.2.2.1.2.1
  have hl1 : 0 ≤ lsV a ∧ lsV a ≤ 8 := by (unfold lsV; (repeat' split) <;> omega)
  have hl2 : 5 ≤ msV a ∧ msV a ≤ 40 := by (unfold msV; (repeat' split) <;> omega)
  have hfu := fur_in (hA 0 (by omega) (by omega))
  have hS0 := (hA 0 (by omega) (by omega)).1
  have hw0 := hA 0 (by omega) (by omega)
  refine v_iload_n (pc := 0) C 1 rfl rfl dX6_set_0 ?_
  refine v_callvS (pc := 1) C cw_RX6_82 (ct_X6_checkSetting l L g a (by first | assumption | omega | (unfold rg; omega))) ⟨Nat.le_of_ble_eq_true rfl, Nat.le_of_ble_eq_true rfl⟩ rfl (Nat.le_of_ble_eq_true rfl) ⟨Nat.le_of_ble_eq_true rfl, Nat.le_of_ble_eq_true rfl⟩ rfl dX6_set_1 (fun u9 hP_1 => ?_)
  rw [hP_1]
  clear hP_1 u9
  refine v_iload_n (pc := 4) C 2 rfl rfl dX6_set_4 ?_
  refine v_gets (pc := 5) C hZ1 rfl u_13_18 dX6_set_5 ?_
  refine v_iload_n (pc := 8) C 1 rfl rfl dX6_set_8 ?_
  refine v_ti (pc := 9) C hT1 ⟨by (first | assumption | omega | (unfold rg; omega)), by (first | assumption | omega | (unfold rg; omega))⟩ (lsV a) (lsV_at (by (first | assumption | omega | (unfold rg; omega)))) dX6_set_9 ?_
  refine v_gets (pc := 10) C hZ2 rfl u_13_19 dX6_set_10 ?_
  refine v_iload_n (pc := 13) C 1 rfl rfl dX6_set_13 ?_
  refine v_ti (pc := 14) C hT2 ⟨by (first | assumption | omega | (unfold rg; omega)), by (first | assumption | omega | (unfold rg; omega))⟩ (msV a) (msV_at (by (first | assumption | omega | (unfold rg; omega)))) dX6_set_14 ?_
  refine v_callvS (pc := 15) C cw_RX6_49 (ct_X6_checkRange l L g v (lsV a) (msV a) (by first | assumption | omega | (unfold rg; omega)) (by first | assumption | omega | (unfold rg; omega)) (by first | assumption | omega | (unfold rg; omega)) (by first | assumption | omega | (unfold rg; omega))) ⟨Nat.le_of_ble_eq_true rfl, Nat.le_of_ble_eq_true rfl⟩ rfl (Nat.le_of_ble_eq_true rfl) ⟨Nat.le_of_ble_eq_true rfl, Nat.le_of_ble_eq_true rfl⟩ rfl dX6_set_15 (fun u9 hP_2 => ?_)
  rw [hP_2]
  clear hP_2 u9
  refine v_iload_n (pc := 18) C 1 rfl rfl dX6_set_18 ?_
  refine v_if_ne (pc := 19) C 43 ⟨by (first | assumption | omega | (unfold rg; omega)), by (first | assumption | omega | (unfold rg; omega))⟩ (by decide) dX6_set_19 (fun h19 => ?_) (fun h19 => ?_)
  · skip
    refine v_aload_n (pc := 43) C 0 rfl rfl dX6_set_43 ?_
    refine gt_0_1 (pc := 44) C u_1_17 dX6_set_44 ?_
    refine v_aload_n (pc := 47) C 0 rfl rfl dX6_set_47 ?_
    refine gt_0_0 (pc := 48) C u_1_13 dX6_set_48 ?_
    refine v_callvV (pc := 51) C cw_RX6_53 rcv_8 (ct_X3_save l L g 0 (by first | assumption | omega | (unfold rg; omega)) (by first | assumption | omega | (unfold rg; omega)) (by first | assumption | omega | (unfold rg; omega))) ⟨Nat.le_of_ble_eq_true rfl, Nat.le_of_ble_eq_true rfl⟩ rfl (Nat.le_of_ble_eq_true rfl) ⟨Nat.le_of_ble_eq_true rfl, Nat.le_of_ble_eq_true rfl⟩ rfl dX6_set_51 (fun u9 hP_3 => ?_)
    rw [hP_3]
    clear hP_3 u9
    refine v_aload_n (pc := 54) C 0 rfl rfl dX6_set_54 ?_
    refine gt_0_0 (pc := 55) C u_1_13 dX6_set_55 ?_
    refine gt_1_3 (pc := 58) C ⟨by (first | assumption | omega | (unfold rg; omega)), by (first | assumption | omega | (unfold rg; omega))⟩ u_13_20 dX6_set_58 ?_
    refine v_iload_n (pc := 61) C 1 rfl rfl dX6_set_61 ?_
    refine al_2 (pc := 62) C ⟨by (first | assumption | omega | (unfold rg; omega)), by (first | assumption | omega | (unfold rg; omega))⟩ ⟨by (first | assumption | omega | (unfold rg; omega)), by (first | assumption | omega | (unfold rg; omega))⟩ dX6_set_62 (g 2 0 0 a) (by rw [svG_0 hh 2 (by decide) (by decide)]) ?_
    refine v_istore_n (pc := 63) C [(3, .int (iI (g 2 0 0 a))), (0, .ref (adr L 0 0 0)), (1, .int (iI a)), (2, .int (iI v))] rfl (by decide) rfl dX6_set_63 ?_
    refine v_aload_n (pc := 64) C 1 rfl rfl dX6_set_64 ?_
    refine gt_0_0 (pc := 65) C u_1_13 dX6_set_65 ?_
    refine gt_1_3 (pc := 68) C ⟨by (first | assumption | omega | (unfold rg; omega)), by (first | assumption | omega | (unfold rg; omega))⟩ u_13_20 dX6_set_68 ?_
    refine v_iload_n (pc := 71) C 2 rfl rfl dX6_set_71 ?_
    refine v_iload_n (pc := 72) C 3 rfl rfl dX6_set_72 ?_
    refine as_2 (pc := 73) C ⟨by (first | assumption | omega | (unfold rg; omega)), by (first | assumption | omega | (unfold rg; omega))⟩ ⟨by (first | assumption | omega | (unfold rg; omega)), by (first | assumption | omega | (unfold rg; omega))⟩ dX6_set_73 ?_
    refine v_iload_n (pc := 74) C 0 rfl rfl dX6_set_74 ?_
    exact v_iretX (pc := 75) C hr hlk ⟨by decide, by decide⟩ (⟨rfl, rfl, by omega⟩) dX6_set_75
  · skip
    refine v_iload_n (pc := 22) C 2 rfl rfl dX6_set_22 ?_
    refine v_aload_n (pc := 23) C 0 rfl rfl dX6_set_23 ?_
    refine gt_0_0 (pc := 24) C u_1_13 dX6_set_24 ?_
    refine v_calliV (pc := 27) C cw_RX6_92 (rcv_1 ⟨by (first | assumption | omega | (unfold rg; omega)), by (first | assumption | omega | (unfold rg; omega))⟩) (ct_X1_furthestPlace l L g 0 1 (by first | assumption | omega | (unfold rg; omega)) (by first | assumption | omega | (unfold rg; omega)) (by first | assumption | omega | (unfold rg; omega))) ⟨Nat.le_of_ble_eq_true rfl, Nat.le_of_ble_eq_true rfl⟩ rfl (Nat.le_of_ble_eq_true rfl) ⟨Nat.le_of_ble_eq_true rfl, Nat.le_of_ble_eq_true rfl⟩ rfl dX6_set_27 (fun r9 u9 hP_4 => ?_)
    obtain ⟨hP_4, hP_4b⟩ := hP_4
    rw [hP_4, hP_4b]
    clear hP_4 hP_4b r9 u9
    refine v_icmp_ge (pc := 30) C 43 ⟨by (first | assumption | omega | (unfold rg; omega)), by (first | assumption | omega | (unfold rg; omega))⟩ ⟨by (first | assumption | omega | (unfold rg; omega)), by (first | assumption | omega | (unfold rg; omega))⟩ (by decide) dX6_set_30 (fun h30 => ?_) (fun h30 => ?_)
    · skip
      refine v_aload_n (pc := 43) C 0 rfl rfl dX6_set_43 ?_
      refine gt_0_1 (pc := 44) C u_1_17 dX6_set_44 ?_
      refine v_aload_n (pc := 47) C 0 rfl rfl dX6_set_47 ?_
      refine gt_0_0 (pc := 48) C u_1_13 dX6_set_48 ?_
      refine v_callvV (pc := 51) C cw_RX6_53 rcv_8 (ct_X3_save l L g 0 (by first | assumption | omega | (unfold rg; omega)) (by first | assumption | omega | (unfold rg; omega)) (by first | assumption | omega | (unfold rg; omega))) ⟨Nat.le_of_ble_eq_true rfl, Nat.le_of_ble_eq_true rfl⟩ rfl (Nat.le_of_ble_eq_true rfl) ⟨Nat.le_of_ble_eq_true rfl, Nat.le_of_ble_eq_true rfl⟩ rfl dX6_set_51 (fun u9 hP_5 => ?_)
      rw [hP_5]
      clear hP_5 u9
      refine v_aload_n (pc := 54) C 0 rfl rfl dX6_set_54 ?_
      refine gt_0_0 (pc := 55) C u_1_13 dX6_set_55 ?_
      refine gt_1_3 (pc := 58) C ⟨by (first | assumption | omega | (unfold rg; omega)), by (first | assumption | omega | (unfold rg; omega))⟩ u_13_20 dX6_set_58 ?_
      refine v_iload_n (pc := 61) C 1 rfl rfl dX6_set_61 ?_
      refine al_2 (pc := 62) C ⟨by (first | assumption | omega | (unfold rg; omega)), by (first | assumption | omega | (unfold rg; omega))⟩ ⟨by (first | assumption | omega | (unfold rg; omega)), by (first | assumption | omega | (unfold rg; omega))⟩ dX6_set_62 (g 2 0 0 a) (by rw [svG_0 hh 2 (by decide) (by decide)]) ?_
      refine v_istore_n (pc := 63) C [(3, .int (iI (g 2 0 0 a))), (0, .ref (adr L 0 0 0)), (1, .int (iI a)), (2, .int (iI v))] rfl (by decide) rfl dX6_set_63 ?_
      refine v_aload_n (pc := 64) C 1 rfl rfl dX6_set_64 ?_
      refine gt_0_0 (pc := 65) C u_1_13 dX6_set_65 ?_
      refine gt_1_3 (pc := 68) C ⟨by (first | assumption | omega | (unfold rg; omega)), by (first | assumption | omega | (unfold rg; omega))⟩ u_13_20 dX6_set_68 ?_
      refine v_iload_n (pc := 71) C 2 rfl rfl dX6_set_71 ?_
      refine v_iload_n (pc := 72) C 3 rfl rfl dX6_set_72 ?_
      refine as_2 (pc := 73) C ⟨by (first | assumption | omega | (unfold rg; omega)), by (first | assumption | omega | (unfold rg; omega))⟩ ⟨by (first | assumption | omega | (unfold rg; omega)), by (first | assumption | omega | (unfold rg; omega))⟩ dX6_set_73 ?_
      refine v_iload_n (pc := 74) C 0 rfl rfl dX6_set_74 ?_
      exact v_iretX (pc := 75) C hr hlk ⟨by decide, by decide⟩ (⟨rfl, rfl, by omega⟩) dX6_set_75
    · skip
      exact v_throw (pc := 33) C (fl_st hfl) hlk htab tw_is (show (97, "something is beyond that place") ∈ strs by decide) (by first | exact Or.inl ⟨rfl, by omega⟩ | exact Or.inr (Or.inl ⟨rfl, by omega⟩) | exact Or.inr (Or.inr ⟨rfl, by omega⟩) | exact Or.inr ⟨rfl, by omega⟩ | exact ⟨rfl, by omega⟩) ⟨by decide, Nat.le_of_ble_eq_true rfl, by decide, by decide⟩ ⟨by decide, by decide⟩ dX6_set_33 dX6_set_36 dX6_set_37 dX6_set_39 dX6_set_42
set_option maxHeartbeats 4000000 in
set_option maxRecDepth 100000 in
theorem ct_X6_pass (l : Launch) (L : Lay) (g : St) (t : Int) (htt : 1 ≤ t ∧ t ≤ 99) (hcl2 : g 1 0 0 0 + t ≤ 99999) (hh : wh g) (hA : wA g) : Met l yX6_pass (.code yX6_pass cX6_pass 2 (some .int) :: wsL_law) { frames := 5, cells := 0, slots := 0, locals := 113 } (va_Pc [.ref (adr L 0 0 0), .int (iI t)] (HS L g)) (va_Qi (fun (r9 : Int32) (u : St) => ∃ z : Int, r9 = iI z ∧ (trs 0 t.toNat (svG g 0) u z)) (fun u t => HS L u t) (Af L)) 0 0 (Af L) := by
  refine ct_mk (by decide +kernel) (Nat.le_of_ble_eq_true rfl) ?_
  intro pp ee ss mm bel mth cx C hr hlk
  show V pp l ee { frames := 5, cells := 0, slots := 0, locals := 113 } ss mm ([.ref (adr L 0 0 0), .int (iI t)]).toArray bel mth cx 2 L (HH L g) 0 0 _ 0 [(0, .ref (adr L 0 0 0)), (1, .int (iI t))] []
  have hws : wf (svG g 0) 0 1 := wf_fk (svG_0 hh) (hA 0 (by omega) (by omega))
  have hCl := (hA 0 (by omega) (by omega)).2.2.2.2.2.2.1
  refine v_iload_n (pc := 0) C 1 rfl rfl dX6_pass_0 ?_
  refine v_iconst (pc := 1) C dX6_pass_1 ?_
  refine v_bipush (pc := 2) C rfl dX6_pass_2 ?_
  refine v_callvS (pc := 4) C cw_RX6_49 (ct_X6_checkRange l L g t 1 99 (by first | assumption | omega | (unfold rg; omega)) (by first | assumption | omega | (unfold rg; omega)) (by first | assumption | omega | (unfold rg; omega)) (by first | assumption | omega | (unfold rg; omega))) ⟨Nat.le_of_ble_eq_true rfl, Nat.le_of_ble_eq_true rfl⟩ rfl (Nat.le_of_ble_eq_true rfl) ⟨Nat.le_of_ble_eq_true rfl, Nat.le_of_ble_eq_true rfl⟩ rfl dX6_pass_4 (fun u9 hP_1 => ?_)
  rw [hP_1]
  clear hP_1 u9
  refine v_aload_n (pc := 7) C 0 rfl rfl dX6_pass_7 ?_
  refine gt_0_0 (pc := 8) C u_1_13 dX6_pass_8 ?_
  refine v_iload_n (pc := 11) C 1 rfl rfl dX6_pass_11 ?_
  refine v_calliV (pc := 12) C cw_RX6_105 (rcv_1 ⟨by (first | assumption | omega | (unfold rg; omega)), by (first | assumption | omega | (unfold rg; omega))⟩) (ct_X1_hasTimeFor l L g 0 t (by first | assumption | omega | (unfold rg; omega)) (by first | assumption | omega | (unfold rg; omega)) (by first | assumption | omega | (unfold rg; omega))) ⟨Nat.le_of_ble_eq_true rfl, Nat.le_of_ble_eq_true rfl⟩ rfl (Nat.le_of_ble_eq_true rfl) ⟨Nat.le_of_ble_eq_true rfl, Nat.le_of_ble_eq_true rfl⟩ rfl dX6_pass_12 (fun r9 u9 hP_2 => ?_)
  obtain ⟨hP_2, hP_2b⟩ := hP_2
  rw [hP_2, hP_2b]
  clear hP_2 hP_2b r9 u9
  refine v_if_ne (pc := 15) C 28 ⟨by split <;> decide, by split <;> decide⟩ (by decide) dX6_pass_15 (fun h15 => ?_) (fun h15 => ?_)
  · skip
    refine v_aload_n (pc := 28) C 0 rfl rfl dX6_pass_28 ?_
    refine gt_0_1 (pc := 29) C u_1_17 dX6_pass_29 ?_
    refine v_aload_n (pc := 32) C 0 rfl rfl dX6_pass_32 ?_
    refine gt_0_0 (pc := 33) C u_1_13 dX6_pass_33 ?_
    refine v_callvV (pc := 36) C cw_RX6_53 rcv_8 (ct_X3_save l L g 0 (by first | assumption | omega | (unfold rg; omega)) (by first | assumption | omega | (unfold rg; omega)) (by first | assumption | omega | (unfold rg; omega))) ⟨Nat.le_of_ble_eq_true rfl, Nat.le_of_ble_eq_true rfl⟩ rfl (Nat.le_of_ble_eq_true rfl) ⟨Nat.le_of_ble_eq_true rfl, Nat.le_of_ble_eq_true rfl⟩ rfl dX6_pass_36 (fun u9 hP_3 => ?_)
    rw [hP_3]
    clear hP_3 u9
    refine v_aload_n (pc := 39) C 0 rfl rfl dX6_pass_39 ?_
    refine gt_0_0 (pc := 40) C u_1_13 dX6_pass_40 ?_
    refine v_iload_n (pc := 43) C 1 rfl rfl dX6_pass_43 ?_
    refine v_calliV (pc := 44) C cw_RX6_111 (rcv_1 ⟨by (first | assumption | omega | (unfold rg; omega)), by (first | assumption | omega | (unfold rg; omega))⟩) (ct_X1_goTurns l L (svG g 0) 0 t (by first | assumption | omega | (unfold rg; omega)) (by exact hws) (by first | assumption | omega | (unfold rg; omega)) (by rw [svG_0 hh 1 (by decide) (by decide)]; exact hcl2)) ⟨Nat.le_of_ble_eq_true rfl, Nat.le_of_ble_eq_true rfl⟩ rfl (Nat.le_of_ble_eq_true rfl) ⟨Nat.le_of_ble_eq_true rfl, Nat.le_of_ble_eq_true rfl⟩ rfl dX6_pass_44 (fun r9 u_5 hP_4 => ?_)
    obtain ⟨z_6, rfl, hP_4⟩ := hP_4
    exact v_iret (pc := 47) C hr hlk (⟨_, rfl, hP_4⟩) dX6_pass_47
  · skip
    exact absurd h15 (by rw [if_pos hcl2]; decide)
set_option maxHeartbeats 4000000 in
set_option maxRecDepth 100000 in
theorem ct_X6_undo (l : Launch) (L : Lay) (g : St) (hh : wh g) (hA : wA g) (h8 : 0 < g 8 0 0 1) : Met l yX6_undo (.code yX6_undo cX6_undo 1 (some .int) :: wsL_law) { frames := 3, cells := 0, slots := 0, locals := 64 } (va_Pc [.ref (adr L 0 0 0)] (HS L g)) (va_Qi (fun (r9 : Int32) (u9 : St) => r9 = iI (g 8 0 0 1 - 1) ∧ u9 = (rsG g 0)) (fun u t => HS L u t) (Af L)) 0 0 (Af L) := by
  refine ct_mk (by decide +kernel) (Nat.le_of_ble_eq_true rfl) ?_
  intro pp ee ss mm bel mth cx C hr hlk
  show V pp l ee { frames := 3, cells := 0, slots := 0, locals := 64 } ss mm ([.ref (adr L 0 0 0)]).toArray bel mth cx 1 L (HH L g) 0 0 _ 0 [(0, .ref (adr L 0 0 0))] []
  have hh1 := hh.1
  refine v_aload_n (pc := 0) C 0 rfl rfl dX6_undo_0 ?_
  refine gt_0_1 (pc := 1) C u_1_17 dX6_undo_1 ?_
  refine gt_8_1 (pc := 4) C u_7_8 dX6_undo_4 (g 8 0 0 1) (rfl) ?_
  refine v_if_gt (pc := 7) C 20 ⟨by (first | assumption | omega | (unfold rg; omega)), by (first | assumption | omega | (unfold rg; omega))⟩ (by decide) dX6_undo_7 (fun h7 => ?_) (fun h7 => ?_)
  · skip
    refine v_aload_n (pc := 20) C 0 rfl rfl dX6_undo_20 ?_
    refine gt_0_1 (pc := 21) C u_1_17 dX6_undo_21 ?_
    refine v_aload_n (pc := 24) C 0 rfl rfl dX6_undo_24 ?_
    refine gt_0_0 (pc := 25) C u_1_13 dX6_undo_25 ?_
    refine v_callvV (pc := 28) C cw_RX6_157 rcv_8 (ct_X3_restoreLatest l L g 0 (by first | assumption | omega | (unfold rg; omega)) (by first | assumption | omega | (unfold rg; omega)) (by first | assumption | omega | (unfold rg; omega)) (by first | assumption | omega | (unfold rg; omega))) ⟨Nat.le_of_ble_eq_true rfl, Nat.le_of_ble_eq_true rfl⟩ rfl (Nat.le_of_ble_eq_true rfl) ⟨Nat.le_of_ble_eq_true rfl, Nat.le_of_ble_eq_true rfl⟩ rfl dX6_undo_28 (fun u9 hP_1 => ?_)
    rw [hP_1]
    clear hP_1 u9
    refine v_aload_n (pc := 31) C 0 rfl rfl dX6_undo_31 ?_
    refine gt_0_1 (pc := 32) C u_1_17 dX6_undo_32 ?_
    refine gt_8_1 (pc := 35) C u_7_8 dX6_undo_35 (g 8 0 0 1 - 1) (by unfold rsG; rw [cpE_f _ _ _ (by decide)]; exact up_s) ?_
    exact v_iret (pc := 38) C hr hlk (⟨rfl, rfl⟩) dX6_undo_38
  · skip
    exfalso; omega
