theorem fl_0 : FP.Core.val64 0 = .fin false 0 (-1074) := by decide +kernel
theorem fl_gt {x : UInt64} {c : Nat} {q : Int} (h : flF x c q) : x ≠ 0 ∧ FP.dcmp x FP.dconst0 = some .gt := by
  obtain ⟨h, h1, h2, h3, h4⟩ := h
  refine ⟨fun hx => ?_, ?_⟩
  · subst hx; rw [fl_0] at h; injection h with a b d; omega
  · show FP.Core.order (FP.Core.val64 x) (FP.Core.val64 0) = _
    rw [h, fl_0]
    show some (compare (((c * 2 ^ (q - min q (-1074)).toNat : Nat)) : Int) (((0 * 2 ^ (-1074 - min q (-1074)).toNat : Nat)) : Int)) = _
    have hp : 0 < c * 2 ^ (q - min q (-1074)).toNat := Nat.mul_pos (by omega) (Nat.two_pow_pos _)
    rw [Int.compare_eq_gt.mpr (by omega)]
/-- the share -/
def shD (a b : Int) : UInt64 := if 0 < b then FP.ddiv (FP.i2d (iI a)) (FP.i2d (iI b)) else FP.dconst1
theorem sh_F {a b : Int} (ha : 0 ≤ a) (hab : a ≤ b) (hb2 : b ≤ 1000000000) : shD a b = 0 ∨ ∃ c q, flF (shD a b) c q := by
  unfold shD; split
  · rename_i hb
    have hv := fl_val ha hab hb hb2
    by_cases h0 : a = 0
    · subst h0
      left
      have hz : FP.Core.val64 (FP.ddiv (FP.i2d (iI 0)) (FP.i2d (iI b))) = FP.Core.val64 0 := by rw [hv, fl_0]; rfl
      exact FP.Core.val64_inj (by rw [hz, fl_0]; simp) hz
    · right
      obtain ⟨c, q, h1, h2, h3, h4, h5, -⟩ := fl_shape (A := a.toNat) (B := b.toNat) (by omega) (by omega) (by omega)
      exact ⟨c, q, by rw [hv]; exact h1, h2, h3, h4, h5⟩
  · exact Or.inr ⟨4503599627370496, -52, fl_one, by decide, by decide, by decide, by decide⟩
theorem sh_nn {a b : Int} (ha : 0 ≤ a) (hab : a ≤ b) (hb2 : b ≤ 1000000000) : vf_n64 (shD a b) := by
  rcases sh_F ha hab hb2 with h | ⟨c, q, h⟩
  · rw [h]; exact fl_n64 (by decide)
  · exact fl_n64 (fl_nn h.1 h.2.1 h.2.2.1 (by have := h.2.2.2.1; omega) (by have := h.2.2.2.2; omega))
def shK (g : St) (k : Int) : UInt64 := shD (smN g k 4) (smN g k 4 + smN g k 5 + smN g k 6)
theorem smN_in {g : St} {k d w : Int} (h : wf g k d) (hc : ctr g k) (hw : 0 ≤ w ∧ w ≤ 6) : 0 ≤ smN g k w ∧ smN g k w ≤ 4000000 := by
  have h0 := plN_in (p := 0) h hc (by decide) hw
  have h1 := plN_in (p := 1) h hc (by decide) hw
  have h2 := plN_in (p := 2) h hc (by decide) hw
  have h3 := plN_in (p := 3) h hc (by decide) hw
  unfold smN; omega

theorem cw_RX6_197 : CW RX6 197 RX1 yX1_shareAnswered cX1_shareAnswered 3 (some .double) 0 := ⟨u_18_5, u_18_6, u_18_7, u_1_12, u_18_8, by decide +kernel⟩
set_option maxHeartbeats 4000000 in
set_option maxRecDepth 100000 in
theorem ct_X1_shareAnswered (l : Launch) (L : Lay) (g : St) (k : Int) (hk : 0 ≤ k ∧ k < 9) (hw : wf g k 1) (hs4 : 0 ≤ smN g k 4 ∧ smN g k 4 ≤ 300000000) (hs5 : 0 ≤ smN g k 5 ∧ smN g k 5 ≤ 300000000) (hs6 : 0 ≤ smN g k 6 ∧ smN g k 6 ≤ 300000000) : Met l yX1_shareAnswered (.code yX1_shareAnswered cX1_shareAnswered 3 (some .double) :: wsL_law) { frames := 3, cells := 0, slots := 0, locals := 68 } (va_Pc [.ref (adr L 1 k 0)] (HS L g)) (va_Qd (fun (r9 : UInt64) (u9 : St) => r9 = (shK g k) ∧ u9 = g) (fun u t => HS L u t) (Af L)) 0 0 (Af L) := by
  refine ct_mk (by decide +kernel) (Nat.le_of_ble_eq_true rfl) ?_
  intro pp ee ss mm bel mth cx C hr hlk
  show V pp l ee { frames := 3, cells := 0, slots := 0, locals := 68 } ss mm ([.ref (adr L 1 k 0)]).toArray bel mth cx 3 L (HH L g) 0 0 _ 0 [(0, .ref (adr L 1 k 0))] []
  refine v_aload_n (pc := 0) C 0 rfl rfl dX1_shareAnswered_0 ?_
  refine v_iconst (pc := 1) C dX1_shareAnswered_1 ?_
  refine v_calliV (pc := 2) C cw_RX1_153 (rcv_1 ⟨by (first | assumption | omega), by (first | assumption | omega)⟩) (ct_X1_sumOfPlayers l L g k 1 4 (by first | assumption | omega) (by first | assumption | omega) (by first | assumption | omega) (by first | assumption | omega)) ⟨Nat.le_of_ble_eq_true rfl, Nat.le_of_ble_eq_true rfl⟩ rfl (Nat.le_of_ble_eq_true rfl) ⟨Nat.le_of_ble_eq_true rfl, Nat.le_of_ble_eq_true rfl⟩ rfl dX1_shareAnswered_2 (fun r9 u9 hP_1 => ?_)
  obtain ⟨hP_1, hP_1b⟩ := hP_1
  rw [hP_1, hP_1b]
  clear hP_1 hP_1b r9 u9
  refine v_istore_n (pc := 5) C [(1, .int (iI (smN g k 4))), (0, .ref (adr L 1 k 0))] rfl (by decide) rfl dX1_shareAnswered_5 ?_
  refine v_iload_n (pc := 6) C 0 rfl rfl dX1_shareAnswered_6 ?_
  refine v_aload_n (pc := 7) C 1 rfl rfl dX1_shareAnswered_7 ?_
  refine v_iconst (pc := 8) C dX1_shareAnswered_8 ?_
  refine v_calliV (pc := 9) C cw_RX1_153 (rcv_1 ⟨by (first | assumption | omega), by (first | assumption | omega)⟩) (ct_X1_sumOfPlayers l L g k 1 5 (by first | assumption | omega) (by first | assumption | omega) (by first | assumption | omega) (by first | assumption | omega)) ⟨Nat.le_of_ble_eq_true rfl, Nat.le_of_ble_eq_true rfl⟩ rfl (Nat.le_of_ble_eq_true rfl) ⟨Nat.le_of_ble_eq_true rfl, Nat.le_of_ble_eq_true rfl⟩ rfl dX1_shareAnswered_9 (fun r9 u9 hP_2 => ?_)
  obtain ⟨hP_2, hP_2b⟩ := hP_2
  rw [hP_2, hP_2b]
  clear hP_2 hP_2b r9 u9
  refine v_iadd (pc := 12) C dX1_shareAnswered_12 ?_
  refine v_aload_n (pc := 13) C 1 rfl rfl dX1_shareAnswered_13 ?_
  refine v_bipush (pc := 14) C rfl dX1_shareAnswered_14 ?_
  refine v_calliV (pc := 16) C cw_RX1_153 (rcv_1 ⟨by (first | assumption | omega), by (first | assumption | omega)⟩) (ct_X1_sumOfPlayers l L g k 1 6 (by first | assumption | omega) (by first | assumption | omega) (by first | assumption | omega) (by first | assumption | omega)) ⟨Nat.le_of_ble_eq_true rfl, Nat.le_of_ble_eq_true rfl⟩ rfl (Nat.le_of_ble_eq_true rfl) ⟨Nat.le_of_ble_eq_true rfl, Nat.le_of_ble_eq_true rfl⟩ rfl dX1_shareAnswered_16 (fun r9 u9 hP_3 => ?_)
  obtain ⟨hP_3, hP_3b⟩ := hP_3
  rw [hP_3, hP_3b]
  clear hP_3 hP_3b r9 u9
  refine v_iadd (pc := 19) C dX1_shareAnswered_19 ?_
  refine v_istore_n (pc := 20) C [(2, .int (iI (((smN g k 4) + (smN g k 5)) + (smN g k 6)))), (1, .int (iI (smN g k 4))), (0, .ref (adr L 1 k 0))] rfl (by decide) rfl dX1_shareAnswered_20 ?_
  refine v_iload_n (pc := 21) C 0 rfl rfl dX1_shareAnswered_21 ?_
  refine v_if_le (pc := 22) C 33 ⟨by (first | assumption | omega), by (first | assumption | omega)⟩ (by decide) dX1_shareAnswered_22 (fun h22 => ?_) (fun h22 => ?_)
  · skip
    refine v_dconst1 (pc := 33) C dX1_shareAnswered_33 ?_
    exact v_dret (pc := 34) C hr hlk (⟨by unfold shK shD; first | rw [if_pos (by omega)] | rw [if_neg (by omega)], rfl⟩) dX1_shareAnswered_34
  · skip
    refine v_iload_n (pc := 25) C 1 rfl rfl dX1_shareAnswered_25 ?_
    refine v_i2d (pc := 26) C dX1_shareAnswered_26 ?_
    refine v_iload_n (pc := 27) C 0 rfl rfl dX1_shareAnswered_27 ?_
    refine v_i2d (pc := 28) C dX1_shareAnswered_28 ?_
    refine v_ddiv (pc := 29) C (by have hn := sh_nn (a := smN g k 4) (b := smN g k 4 + smN g k 5 + smN g k 6) (by omega) (by omega) (by omega); unfold shD at hn; rw [if_pos (by omega)] at hn; exact hn) dX1_shareAnswered_29 ?_
    refine v_goto (pc := 30) C 34 (by decide) dX1_shareAnswered_30 ?_
    exact v_dret (pc := 34) C hr hlk (⟨by unfold shK shD; first | rw [if_pos (by omega)] | rw [if_neg (by omega)], rfl⟩) dX1_shareAnswered_34
set_option maxHeartbeats 4000000 in
set_option maxRecDepth 100000 in
theorem ct_X6_answeredShare (l : Launch) (L : Lay) (g : St) (hw : wf g 0 1) (hct : ctr g 0) : Met l yX6_answeredShare (.code yX6_answeredShare cX6_answeredShare 1 (some .double) :: wsL_law) { frames := 4, cells := 0, slots := 0, locals := 90 } (va_Pc [.ref (adr L 0 0 0)] (HS L g)) (va_Qd (fun (r9 : UInt64) (u9 : St) => r9 = (shK g 0) ∧ u9 = g) (fun u t => HS L u t) (Af L)) 0 0 (Af L) := by
  refine ct_mk (by decide +kernel) (Nat.le_of_ble_eq_true rfl) ?_
  intro pp ee ss mm bel mth cx C hr hlk
  show V pp l ee { frames := 4, cells := 0, slots := 0, locals := 90 } ss mm ([.ref (adr L 0 0 0)]).toArray bel mth cx 1 L (HH L g) 0 0 _ 0 [(0, .ref (adr L 0 0 0))] []
  have s4 := smN_in (w := 4) hw hct (by decide)
  have s5 := smN_in (w := 5) hw hct (by decide)
  have s6 := smN_in (w := 6) hw hct (by decide)
  refine v_aload_n (pc := 0) C 0 rfl rfl dX6_answeredShare_0 ?_
  refine gt_0_0 (pc := 1) C u_1_13 dX6_answeredShare_1 ?_
  refine v_calldV (pc := 4) C cw_RX6_197 (rcv_1 ⟨by (first | assumption | omega), by (first | assumption | omega)⟩) (ct_X1_shareAnswered l L g 0 (by first | assumption | omega) (by first | assumption | omega) (by first | assumption | omega) (by first | assumption | omega) (by first | assumption | omega)) ⟨Nat.le_of_ble_eq_true rfl, Nat.le_of_ble_eq_true rfl⟩ rfl (Nat.le_of_ble_eq_true rfl) ⟨Nat.le_of_ble_eq_true rfl, Nat.le_of_ble_eq_true rfl⟩ rfl dX6_answeredShare_4 (fun r9 u9 hP_1 => ?_)
  obtain ⟨hP_1, hP_1b⟩ := hP_1
  rw [hP_1, hP_1b]
  clear hP_1 hP_1b r9 u9
  exact v_dret (pc := 7) C hr hlk (⟨rfl, rfl⟩) dX6_answeredShare_7
