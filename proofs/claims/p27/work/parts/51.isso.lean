/-! the share told, and reckoned by the law -/
theorem dc_self {x : UInt64} (h : x = 0 ∨ ∃ c q, flF x c q) : FP.dcmp x x = some .eq := by
  rcases h with rfl | ⟨c, q, h⟩
  · decide +kernel
  · show FP.Core.order (FP.Core.val64 x) (FP.Core.val64 x) = _
    rw [h.1]
    show some (compare (((c * 2 ^ (q - min q q).toNat : Nat)) : Int) (((c * 2 ^ (q - min q q).toNat : Nat)) : Int)) = _
    rw [Int.compare_eq_eq.mpr rfl]

theorem cwh_L_ballIn : CWh RL 142 yL_ballIn cL_ballIn 4 (some .int) [(0, 6, 7, 18)] 3 := ⟨u_18_23, u_19_0, u_3_22, u_19_1, by decide +kernel⟩
theorem cwh_L_callIn : CWh RL 138 yL_callIn cL_callIn 3 (some .int) [(0, 5, 6, 16)] 2 := ⟨u_4_6, u_4_7, u_3_22, u_4_8, by decide +kernel⟩
theorem cwh_L_wouldClash : CWh RL 140 yL_wouldClash cL_wouldClash 4 (some .int) [(0, 6, 7, 16), (0, 6, 11, 18)] 3 := ⟨u_18_12, u_18_13, u_3_22, u_18_14, by decide +kernel⟩
theorem cw_RL_126 : CWs RL 126 yL_areEchoes cL_areEchoes 10 (some .boolean) 4 := ⟨u_17_14, u_17_15, u_3_22, u_17_16, by decide +kernel⟩
theorem cw_RL_130 : CW RL 130 RX6 yX6_answeredShare cX6_answeredShare 1 (some .double) 0 := ⟨u_18_1, u_18_2, u_18_3, u_1_2, u_18_4, by decide +kernel⟩
theorem cw_RL_134 : CWs RL 134 yL_meets cL_meets 13 (some .boolean) 7 := ⟨u_18_9, u_18_10, u_3_22, u_18_11, by decide +kernel⟩
set_option maxHeartbeats 4000000 in
set_option maxRecDepth 100000 in
theorem vs_so5 {pp : Program} {l : Launch} {ee : Env} {ss : State} {mm : MethodId} {args : Array Value} {bel : List Frame} {mth : Method} {cx : Code} {L : Lay} (C : Cx pp ss mm args cx cL_isSo 15 RL L) (hr : mth.sig.returnType = some .boolean) (hlk : mth.locks = false) (hsum : 0 < su L) (g v : St) (x p y a : Int) (hK : K v) (hz : zz g v) : V pp l ee { frames := 11, cells := 1, slots := 6, locals := 340 } ss mm args bel mth cx 15 L (HH L v) 1 6 (MQ bel (va_Qi (fun (r9 : Int32) (u : St) => ∃ z : Int, r9 = iI z ∧ (z = 1 ∧ zz g u)) (fun u t => HS L u t) (Af L)) args ss 1 6 (Af L)) 540 [(0, .ref (adr L 0 0 0)), (1, .int (iI x)), (2, .ref (adr L 14 0 0)), (3, .ref (adr L 15 0 0)), (4, .ref (adr L 16 0 0)), (5, .ref (adr L 17 0 0)), (6, .ref (adr L 18 0 0)), (7, .int (iI 1)), (9, .int (iI p)), (10, .int (iI y)), (11, .int (iI a))] [] := by
  obtain ⟨hq, hw, hct, hT, hk, h8, h1⟩ := id hK
  obtain ⟨qS0, qS1, qS2, qB0, qB1, qCl, qN, qPl, qEc⟩ := wq_s hq
  have q6 := hq.2.1
  refine v_iload_n (pc := 540) C 1 rfl rfl dL_isSo_540 ?_
  refine v_iconst (pc := 541) C dL_isSo_541 ?_
  refine v_ishrz (pc := 542) C dL_isSo_542 (fun zs_1 hzs_1 => ?_)
  refine v_bipush (pc := 543) C rfl dL_isSo_543 ?_
  refine v_calliS (pc := 545) C cw_RL_101 (ct_L_low l L v zs_1 100 (by first | assumption | omega | (unfold rg; omega)) (by first | assumption | omega | (unfold rg; omega))) ⟨Nat.le_of_ble_eq_true rfl, Nat.le_of_ble_eq_true rfl⟩ rfl (Nat.le_of_ble_eq_true rfl) ⟨Nat.le_of_ble_eq_true rfl, Nat.le_of_ble_eq_true rfl⟩ rfl dL_isSo_545 (fun r9 u9 hP_2 => ?_)
  obtain ⟨hP_2, hP_2b⟩ := hP_2
  rw [hP_2, hP_2b]
  clear hP_2 hP_2b r9 u9
  have ht := lw_in zs_1 (n := 100) (by decide)
  obtain ⟨t, htd⟩ : ∃ t : Int, t = lw zs_1 100 := ⟨_, rfl⟩
  rw [← htd] at ht
  refine v_topi (b := t) C (htd.symm) ?_
  refine v_istore (pc := 548) C [(12, .int (iI t)), (0, .ref (adr L 0 0 0)), (1, .int (iI x)), (2, .ref (adr L 14 0 0)), (3, .ref (adr L 15 0 0)), (4, .ref (adr L 16 0 0)), (5, .ref (adr L 17 0 0)), (6, .ref (adr L 18 0 0)), (7, .int (iI 1)), (9, .int (iI p)), (10, .int (iI y)), (11, .int (iI a))] (by decide) rfl dL_isSo_548 ?_
  obtain ⟨b0, b1, b2⟩ := k_bn hK (t := t) ht.1
  have htm : 0 ≤ t * v 14 0 0 5 ∧ t * v 14 0 0 5 ≤ 99 * 9 := ⟨Int.mul_nonneg (by omega) (by omega), Int.mul_le_mul (by omega) (by omega) (by omega) (by omega)⟩
  have hw1 : wf (lmG v (t * v 14 0 0 5).toNat) 0 1 := wf_fk (fun f a b => by rw [lm_f v _ (by omega)]) hw
  have hw2 := sbG_wf t hw1
  have l4 := lm_4 v (t * v 14 0 0 5).toNat
  have l6 := lm_6 v (t * v 14 0 0 5).toNat
  have hbw := bwalk_in (last := v 14 0 0 0) (by omega) (q := (v 14 0 0 4, (v 14 0 0 6 + 1) / 2)) qB0 (show (v 14 0 0 6 + 1) / 2 = 0 ∨ (v 14 0 0 6 + 1) / 2 = 1 by omega) (t * v 14 0 0 5).toNat
  rw [← l4] at hbw
  generalize hX : (bwalk (v 14 0 0 0) (t * v 14 0 0 5).toNat (v 14 0 0 4, (v 14 0 0 6 + 1) / 2)).2 = X at l6 hbw
  refine v_aload_n (pc := 550) C 3 rfl rfl dL_isSo_550 ?_
  refine v_iconst (pc := 551) C dL_isSo_551 ?_
  refine al_14 (pc := 552) C ⟨by (first | assumption | omega | (unfold rg; omega)), by (first | assumption | omega | (unfold rg; omega))⟩ dL_isSo_552 (v 14 0 0 4) (rfl) ?_
  refine v_istore (pc := 553) C [(13, .int (iI (v 14 0 0 4))), (12, .int (iI t)), (0, .ref (adr L 0 0 0)), (1, .int (iI x)), (2, .ref (adr L 14 0 0)), (3, .ref (adr L 15 0 0)), (4, .ref (adr L 16 0 0)), (5, .ref (adr L 17 0 0)), (6, .ref (adr L 18 0 0)), (7, .int (iI 1)), (9, .int (iI p)), (10, .int (iI y)), (11, .int (iI a))] (by decide) rfl dL_isSo_553 ?_
  refine v_aload_n (pc := 555) C 4 rfl rfl dL_isSo_555 ?_
  refine v_bipush (pc := 556) C rfl dL_isSo_556 ?_
  refine al_14 (pc := 558) C ⟨by (first | assumption | omega | (unfold rg; omega)), by (first | assumption | omega | (unfold rg; omega))⟩ dL_isSo_558 (v 14 0 0 6) (rfl) ?_
  refine v_istore (pc := 559) C [(14, .int (iI (v 14 0 0 6))), (13, .int (iI (v 14 0 0 4))), (12, .int (iI t)), (0, .ref (adr L 0 0 0)), (1, .int (iI x)), (2, .ref (adr L 14 0 0)), (3, .ref (adr L 15 0 0)), (4, .ref (adr L 16 0 0)), (5, .ref (adr L 17 0 0)), (6, .ref (adr L 18 0 0)), (7, .int (iI 1)), (9, .int (iI p)), (10, .int (iI y)), (11, .int (iI a))] (by decide) rfl dL_isSo_559 ?_
  refine v_iload (pc := 561) C 2 rfl dL_isSo_561 ?_
  refine v_aload_n (pc := 563) C 5 rfl rfl dL_isSo_563 ?_
  refine v_iconst (pc := 564) C dL_isSo_564 ?_
  refine al_14 (pc := 565) C ⟨by (first | assumption | omega | (unfold rg; omega)), by (first | assumption | omega | (unfold rg; omega))⟩ dL_isSo_565 (v 14 0 0 5) (rfl) ?_
  refine v_imul (pc := 566) C dL_isSo_566 ?_
  refine v_aload_n (pc := 567) C 5 rfl rfl dL_isSo_567 ?_
  refine v_callvS (pc := 568) C cw_RL_75 (ct_L_moves l L v (t * (v 14 0 0 5)) (by omega) (by exact qS0) (by exact qB0) (by exact q6)) ⟨Nat.le_of_ble_eq_true rfl, Nat.le_of_ble_eq_true rfl⟩ rfl (Nat.le_of_ble_eq_true rfl) ⟨Nat.le_of_ble_eq_true rfl, Nat.le_of_ble_eq_true rfl⟩ rfl dL_isSo_568 (fun u9 hP_3 => ?_)
  rw [hP_3]
  clear hP_3 u9
  refine v_iload (pc := 571) C 10 rfl dL_isSo_571 ?_
  refine v_if_eq (pc := 573) C 628 ⟨by (first | assumption | omega | (unfold rg; omega)), by (first | assumption | omega | (unfold rg; omega))⟩ (by decide) dL_isSo_573 (fun h573 => ?_) (fun h573 => ?_)
  · skip
    exfalso; omega
  · skip
    refine v_aload_n (pc := 576) C 3 rfl rfl dL_isSo_576 ?_
    refine v_iload (pc := 577) C 2 rfl dL_isSo_577 ?_
    refine v_iconst (pc := 579) C dL_isSo_579 ?_
    refine v_calliH (pc := 580) C cwh_L_ballIn (ct_L_ballIn l L (lmG v (t * (v 14 0 0 5)).toNat) t 0 (by first | assumption | omega | (unfold rg; omega)) (by first | assumption | omega | (unfold rg; omega)) (by exact hw1)) ⟨Nat.le_of_ble_eq_true rfl, Nat.le_of_ble_eq_true rfl⟩ rfl (Nat.le_of_ble_eq_true rfl) ⟨Nat.le_of_ble_eq_true rfl, Nat.le_of_ble_eq_true rfl⟩ rfl dL_isSo_580 (fun r9 u9 hP_4 => ?_)
    obtain ⟨hP_4, hP_4b⟩ := hP_4
    rw [hP_4, hP_4b]
    clear hP_4 hP_4b r9 u9
    refine v_topi (b := bnN v t 0) C (bnN_lm v _ t 0) ?_
    refine v_st (g2 := sbG (lmG v (t * v 14 0 0 5).toNat) t) C (by unfold bnG; rw [if_neg (by decide)]) ?_
    refine v_aload_n (pc := 583) C 5 rfl rfl dL_isSo_583 ?_
    refine v_iconst (pc := 584) C dL_isSo_584 ?_
    refine al_14 (pc := 585) C ⟨by (first | assumption | omega | (unfold rg; omega)), by (first | assumption | omega | (unfold rg; omega))⟩ dL_isSo_585 (lmG v (t * v 14 0 0 5).toNat 14 0 0 4) (by rw [sbG_f _ _ (by decide)]) ?_
    refine v_icmp_ne (pc := 586) C 628 ⟨by (first | assumption | omega | (unfold rg; omega)), by (first | assumption | omega | (unfold rg; omega))⟩ ⟨by (first | assumption | omega | (unfold rg; omega)), by (first | assumption | omega | (unfold rg; omega))⟩ (by decide) dL_isSo_586 (fun h586 => ?_) (fun h586 => ?_)
    · skip
      exfalso; omega
    · skip
      refine v_aload_n (pc := 589) C 3 rfl rfl dL_isSo_589 ?_
      refine v_iload (pc := 590) C 2 rfl dL_isSo_590 ?_
      refine v_iconst (pc := 592) C dL_isSo_592 ?_
      refine v_calliH (pc := 593) C cwh_L_ballIn (ct_L_ballIn l L (sbG (lmG v (t * v 14 0 0 5).toNat) t) t 1 (by first | assumption | omega | (unfold rg; omega)) (by first | assumption | omega | (unfold rg; omega)) (by exact hw2)) ⟨Nat.le_of_ble_eq_true rfl, Nat.le_of_ble_eq_true rfl⟩ rfl (Nat.le_of_ble_eq_true rfl) ⟨Nat.le_of_ble_eq_true rfl, Nat.le_of_ble_eq_true rfl⟩ rfl dL_isSo_593 (fun r9 u9 hP_5 => ?_)
      obtain ⟨hP_5, hP_5b⟩ := hP_5
      rw [hP_5, hP_5b]
      clear hP_5 hP_5b r9 u9
      refine v_topi (b := bnN v t 1) C (by rw [bnN_sb, bnN_lm]) ?_
      refine v_st (g2 := sbG (lmG v (t * v 14 0 0 5).toNat) t) C (by unfold bnG; rw [if_pos rfl]) ?_
      refine v_aload_n (pc := 596) C 5 rfl rfl dL_isSo_596 ?_
      refine v_iconst (pc := 597) C dL_isSo_597 ?_
      refine al_14 (pc := 598) C ⟨by (first | assumption | omega | (unfold rg; omega)), by (first | assumption | omega | (unfold rg; omega))⟩ dL_isSo_598 (lmG v (t * v 14 0 0 5).toNat 14 0 0 4) (by rw [sbG_f _ _ (by decide)]) ?_
      refine v_icmp_ne (pc := 599) C 628 ⟨by (first | assumption | omega | (unfold rg; omega)), by (first | assumption | omega | (unfold rg; omega))⟩ ⟨by (first | assumption | omega | (unfold rg; omega)), by (first | assumption | omega | (unfold rg; omega))⟩ (by decide) dL_isSo_599 (fun h599 => ?_) (fun h599 => ?_)
      · skip
        exfalso; omega
      · skip
        refine v_aload_n (pc := 602) C 3 rfl rfl dL_isSo_602 ?_
        refine v_iload (pc := 603) C 2 rfl dL_isSo_603 ?_
        refine v_iconst (pc := 605) C dL_isSo_605 ?_
        refine v_calliH (pc := 606) C cwh_L_ballIn (ct_L_ballIn l L (sbG (lmG v (t * v 14 0 0 5).toNat) t) t 2 (by first | assumption | omega | (unfold rg; omega)) (by first | assumption | omega | (unfold rg; omega)) (by exact hw2)) ⟨Nat.le_of_ble_eq_true rfl, Nat.le_of_ble_eq_true rfl⟩ rfl (Nat.le_of_ble_eq_true rfl) ⟨Nat.le_of_ble_eq_true rfl, Nat.le_of_ble_eq_true rfl⟩ rfl dL_isSo_606 (fun r9 u9 hP_6 => ?_)
        obtain ⟨hP_6, hP_6b⟩ := hP_6
        rw [hP_6, hP_6b]
        clear hP_6 hP_6b r9 u9
        refine v_topi (b := bnN v t 2) C (by rw [bnN_sb, bnN_lm]) ?_
        refine v_st (g2 := sbG (lmG v (t * v 14 0 0 5).toNat) t) C (by unfold bnG; rw [if_neg (by decide)]; exact sbG_sb _ t t) ?_
        refine v_aload_n (pc := 609) C 5 rfl rfl dL_isSo_609 ?_
        refine v_bipush (pc := 610) C rfl dL_isSo_610 ?_
        refine al_14 (pc := 612) C ⟨by (first | assumption | omega | (unfold rg; omega)), by (first | assumption | omega | (unfold rg; omega))⟩ dL_isSo_612 (lmG v (t * v 14 0 0 5).toNat 14 0 0 6) (by rw [sbG_f _ _ (by decide)]) ?_
        refine v_if_le (pc := 613) C 620 ⟨by (first | assumption | omega | (unfold rg; omega)), by (first | assumption | omega | (unfold rg; omega))⟩ (by decide) dL_isSo_613 (fun h613 => ?_) (fun h613 => ?_)
        · skip
          refine v_iconst (pc := 620) C dL_isSo_620 ?_
          refine v_icmp_ne (pc := 621) C 628 ⟨by (first | assumption | omega | (unfold rg; omega)), by (first | assumption | omega | (unfold rg; omega))⟩ ⟨by (first | assumption | omega | (unfold rg; omega)), by (first | assumption | omega | (unfold rg; omega))⟩ (by decide) dL_isSo_621 (fun h621 => ?_) (fun h621 => ?_)
          · skip
            exfalso; omega
          · skip
            refine v_iconst (pc := 624) C dL_isSo_624 ?_
            refine v_goto (pc := 625) C 629 (by decide) dL_isSo_625 ?_
            refine v_istore (pc := 629) C [(7, .int (iI 1)), (14, .int (iI (v 14 0 0 6))), (13, .int (iI (v 14 0 0 4))), (12, .int (iI t)), (0, .ref (adr L 0 0 0)), (1, .int (iI x)), (2, .ref (adr L 14 0 0)), (3, .ref (adr L 15 0 0)), (4, .ref (adr L 16 0 0)), (5, .ref (adr L 17 0 0)), (6, .ref (adr L 18 0 0)), (9, .int (iI p)), (10, .int (iI y)), (11, .int (iI a))] (by decide) rfl dL_isSo_629 ?_
            refine v_aload_n (pc := 631) C 6 rfl rfl dL_isSo_631 ?_
            refine v_iconst (pc := 632) C dL_isSo_632 ?_
            refine v_iload (pc := 633) C 2 rfl dL_isSo_633 ?_
            refine as_14 (pc := 635) C ⟨by (first | assumption | omega | (unfold rg; omega)), by (first | assumption | omega | (unfold rg; omega))⟩ dL_isSo_635 ?_
            refine v_aload_n (pc := 636) C 6 rfl rfl dL_isSo_636 ?_
            refine v_bipush (pc := 637) C rfl dL_isSo_637 ?_
            refine v_iload (pc := 639) C 1 rfl dL_isSo_639 ?_
            refine as_14 (pc := 641) C ⟨by (first | assumption | omega | (unfold rg; omega)), by (first | assumption | omega | (unfold rg; omega))⟩ dL_isSo_641 ?_
            refine v_iload (pc := 642) C 0 rfl dL_isSo_642 ?_
            exact v_zret (pc := 644) C hr hlk (by first | assumption | omega | (unfold rg; omega)) (⟨1, rfl, rfl, zz_tr hz (so_end v _ t)⟩) dL_isSo_644
        · skip
          refine v_iconst (pc := 616) C dL_isSo_616 ?_
          refine v_goto (pc := 617) C 621 (by decide) dL_isSo_617 ?_
          refine v_icmp_ne (pc := 621) C 628 ⟨by (first | assumption | omega | (unfold rg; omega)), by (first | assumption | omega | (unfold rg; omega))⟩ ⟨by (first | assumption | omega | (unfold rg; omega)), by (first | assumption | omega | (unfold rg; omega))⟩ (by decide) dL_isSo_621 (fun h621 => ?_) (fun h621 => ?_)
          · skip
            exfalso; omega
          · skip
            refine v_iconst (pc := 624) C dL_isSo_624 ?_
            refine v_goto (pc := 625) C 629 (by decide) dL_isSo_625 ?_
            refine v_istore (pc := 629) C [(7, .int (iI 1)), (14, .int (iI (v 14 0 0 6))), (13, .int (iI (v 14 0 0 4))), (12, .int (iI t)), (0, .ref (adr L 0 0 0)), (1, .int (iI x)), (2, .ref (adr L 14 0 0)), (3, .ref (adr L 15 0 0)), (4, .ref (adr L 16 0 0)), (5, .ref (adr L 17 0 0)), (6, .ref (adr L 18 0 0)), (9, .int (iI p)), (10, .int (iI y)), (11, .int (iI a))] (by decide) rfl dL_isSo_629 ?_
            refine v_aload_n (pc := 631) C 6 rfl rfl dL_isSo_631 ?_
            refine v_iconst (pc := 632) C dL_isSo_632 ?_
            refine v_iload (pc := 633) C 2 rfl dL_isSo_633 ?_
            refine as_14 (pc := 635) C ⟨by (first | assumption | omega | (unfold rg; omega)), by (first | assumption | omega | (unfold rg; omega))⟩ dL_isSo_635 ?_
            refine v_aload_n (pc := 636) C 6 rfl rfl dL_isSo_636 ?_
            refine v_bipush (pc := 637) C rfl dL_isSo_637 ?_
            refine v_iload (pc := 639) C 1 rfl dL_isSo_639 ?_
            refine as_14 (pc := 641) C ⟨by (first | assumption | omega | (unfold rg; omega)), by (first | assumption | omega | (unfold rg; omega))⟩ dL_isSo_641 ?_
            refine v_iload (pc := 642) C 0 rfl dL_isSo_642 ?_
            exact v_zret (pc := 644) C hr hlk (by first | assumption | omega | (unfold rg; omega)) (⟨1, rfl, rfl, zz_tr hz (so_end v _ t)⟩) dL_isSo_644
set_option maxHeartbeats 4000000 in
set_option maxRecDepth 100000 in
theorem vs_so4 {pp : Program} {l : Launch} {ee : Env} {ss : State} {mm : MethodId} {args : Array Value} {bel : List Frame} {mth : Method} {cx : Code} {L : Lay} (C : Cx pp ss mm args cx cL_isSo 15 RL L) (hr : mth.sig.returnType = some .boolean) (hlk : mth.locks = false) (hsum : 0 < su L) (g v : St) (x p a : Int) (hK : K v) (hz : zz g v) (hp : 0 ≤ p ∧ p < 4) : V pp l ee { frames := 11, cells := 1, slots := 6, locals := 340 } ss mm args bel mth cx 15 L (HH L v) 1 6 (MQ bel (va_Qi (fun (r9 : Int32) (u : St) => ∃ z : Int, r9 = iI z ∧ (z = 1 ∧ zz g u)) (fun u t => HS L u t) (Af L)) args ss 1 6 (Af L)) 428 [(0, .ref (adr L 0 0 0)), (1, .int (iI x)), (2, .ref (adr L 14 0 0)), (3, .ref (adr L 15 0 0)), (4, .ref (adr L 16 0 0)), (5, .ref (adr L 17 0 0)), (6, .ref (adr L 18 0 0)), (7, .int (iI 1)), (9, .int (iI p)), (10, .int (iI (v 15 0 0 (6 * p)))), (11, .int (iI a))] [] := by
  obtain ⟨hq, hw, hct, hT, hk, h8, h1⟩ := id hK
  obtain ⟨qS0, qS1, qS2, qB0, qB1, qCl, qN, qPl, qEc⟩ := wq_s hq
  have q6 := hq.2.1
  have hpl := qPl p hp.1 hp.2
  have heR := wq_eR hq (by decide)
  refine v_iconst (pc := 428) C dL_isSo_428 ?_
  refine v_istore (pc := 429) C [(12, .int (iI 0)), (0, .ref (adr L 0 0 0)), (1, .int (iI x)), (2, .ref (adr L 14 0 0)), (3, .ref (adr L 15 0 0)), (4, .ref (adr L 16 0 0)), (5, .ref (adr L 17 0 0)), (6, .ref (adr L 18 0 0)), (7, .int (iI 1)), (9, .int (iI p)), (10, .int (iI (v 15 0 0 (6 * p)))), (11, .int (iI a))] (by decide) rfl dL_isSo_429 ?_
  have lb431 : ∀ (n9 : Nat) (w : Int), (0 ≤ w ∧ w ≤ 2) → (2 - w).toNat < n9 → V pp l ee { frames := 11, cells := 1, slots := 6, locals := 340 } ss mm args bel mth cx 15 L (HH L v) 1 6 (MQ bel (va_Qi (fun (r9 : Int32) (u : St) => ∃ z : Int, r9 = iI z ∧ (z = 1 ∧ zz g u)) (fun u t => HS L u t) (Af L)) args ss 1 6 (Af L)) 431 [(0, .ref (adr L 0 0 0)), (1, .int (iI x)), (2, .ref (adr L 14 0 0)), (3, .ref (adr L 15 0 0)), (4, .ref (adr L 16 0 0)), (5, .ref (adr L 17 0 0)), (6, .ref (adr L 18 0 0)), (7, .int (iI 1)), (9, .int (iI p)), (10, .int (iI (v 15 0 0 (6 * p)))), (11, .int (iI a)), (12, .int (iI w))] [] := by
    intro n9
    induction n9 with
    | zero => intro w hw0 hm9; exact absurd hm9 (Nat.not_lt_zero _)
    | succ n9 ih9 =>
      intro w hw0 hm9
      have ihL431 := ih9
      refine v_iload (pc := 431) C 11 rfl dL_isSo_431 ?_
      refine v_iconst (pc := 433) C dL_isSo_433 ?_
      refine v_icmp_ge (pc := 434) C 540 ⟨by (first | assumption | omega | (unfold rg; omega)), by (first | assumption | omega | (unfold rg; omega))⟩ ⟨by (first | assumption | omega | (unfold rg; omega)), by (first | assumption | omega | (unfold rg; omega))⟩ (by decide) dL_isSo_434 (fun h434 => ?_) (fun h434 => ?_)
      · skip
        refine v_lsub [0, 1, 2, 3, 4, 5, 6, 7, 8, 9, 10] rfl ?_
        exact vs_so5 C hr hlk hsum g v x p (v 15 0 0 (6 * p)) a hK hz
      · skip
        have hdw : 1 ≤ lDl v (v 15 0 0 (6 * p)) w ∧ lDl v (v 15 0 0 (6 * p)) w ≤ 100 := dly_in (by omega) qS1 qS2 hpl
        have hdv : 1 ≤ lDl v (v 15 0 0 (6 * p)) (1 - w) ∧ lDl v (v 15 0 0 (6 * p)) (1 - w) ≤ 100 := dly_in (by omega) qS1 qS2 hpl
        have hco := lCo_in v (v 15 0 0 (6 * p)) (v 14 0 0 3 + lDl v (v 15 0 0 (6 * p)) w)
        have e1 := k_et hK (p := p) (w := w) hp
        have e2 := k_cl hK (p := p) (w := w) hp ⟨by omega, by omega⟩
        refine v_iload (pc := 437) C 9 rfl dL_isSo_437 ?_
        refine v_iload (pc := 439) C 11 rfl dL_isSo_439 ?_
        refine v_aload_n (pc := 441) C 2 rfl rfl dL_isSo_441 ?_
        refine v_calliS (pc := 442) C cw_RL_67 (ct_L_delay l L v (v 15 0 0 (6 * p)) w (by exact qS0) (by exact qS1) (by exact qS2) (by exact hpl) (by omega)) ⟨Nat.le_of_ble_eq_true rfl, Nat.le_of_ble_eq_true rfl⟩ rfl (Nat.le_of_ble_eq_true rfl) ⟨Nat.le_of_ble_eq_true rfl, Nat.le_of_ble_eq_true rfl⟩ rfl dL_isSo_442 (fun r9 u9 hP_1 => ?_)
        obtain ⟨hP_1, hP_1b⟩ := hP_1
        rw [hP_1, hP_1b]
        clear hP_1 hP_1b r9 u9
        refine v_istore (pc := 445) C [(13, .int (iI (lDl v (v 15 0 0 (6 * p)) w))), (0, .ref (adr L 0 0 0)), (1, .int (iI x)), (2, .ref (adr L 14 0 0)), (3, .ref (adr L 15 0 0)), (4, .ref (adr L 16 0 0)), (5, .ref (adr L 17 0 0)), (6, .ref (adr L 18 0 0)), (7, .int (iI 1)), (9, .int (iI p)), (10, .int (iI (v 15 0 0 (6 * p)))), (11, .int (iI a)), (12, .int (iI w))] (by decide) rfl dL_isSo_445 ?_
        refine v_iload (pc := 447) C 10 rfl dL_isSo_447 ?_
        refine v_iconst (pc := 449) C dL_isSo_449 ?_
        refine v_iload (pc := 450) C 12 rfl dL_isSo_450 ?_
        refine v_isub (pc := 452) C dL_isSo_452 ?_
        refine v_aload_n (pc := 453) C 3 rfl rfl dL_isSo_453 ?_
        refine v_calliS (pc := 454) C cw_RL_67 (ct_L_delay l L v (v 15 0 0 (6 * p)) (1 - w) (by exact qS0) (by exact qS1) (by exact qS2) (by exact hpl) (by omega)) ⟨Nat.le_of_ble_eq_true rfl, Nat.le_of_ble_eq_true rfl⟩ rfl (Nat.le_of_ble_eq_true rfl) ⟨Nat.le_of_ble_eq_true rfl, Nat.le_of_ble_eq_true rfl⟩ rfl dL_isSo_454 (fun r9 u9 hP_2 => ?_)
        obtain ⟨hP_2, hP_2b⟩ := hP_2
        rw [hP_2, hP_2b]
        clear hP_2 hP_2b r9 u9
        refine v_iload (pc := 457) C 0 rfl dL_isSo_457 ?_
        refine v_icmp_eq (pc := 459) C 481 ⟨by (first | assumption | omega | (unfold rg; omega)), by (first | assumption | omega | (unfold rg; omega))⟩ ⟨by (first | assumption | omega | (unfold rg; omega)), by (first | assumption | omega | (unfold rg; omega))⟩ (by decide) dL_isSo_459 (fun h459 => ?_) (fun h459 => ?_)
        · skip
          have e3 := e2.trans (if_pos (show (lDl v (v 15 0 0 (6 * p)) (1 - w) = lDl v (v 15 0 0 (6 * p)) w ∨ 0 < lCo v (v 15 0 0 (6 * p)) (v 14 0 0 3 + lDl v (v 15 0 0 (6 * p)) w)) from by omega))
          refine v_iconst (pc := 481) C dL_isSo_481 ?_
          refine v_goto (pc := 482) C 486 (by decide) dL_isSo_482 ?_
          refine v_istore (pc := 486) C [(14, .int (iI 1)), (13, .int (iI (lDl v (v 15 0 0 (6 * p)) w))), (0, .ref (adr L 0 0 0)), (1, .int (iI x)), (2, .ref (adr L 14 0 0)), (3, .ref (adr L 15 0 0)), (4, .ref (adr L 16 0 0)), (5, .ref (adr L 17 0 0)), (6, .ref (adr L 18 0 0)), (7, .int (iI 1)), (9, .int (iI p)), (10, .int (iI (v 15 0 0 (6 * p)))), (11, .int (iI a)), (12, .int (iI w))] (by decide) rfl dL_isSo_486 ?_
          refine v_iload (pc := 488) C 9 rfl dL_isSo_488 ?_
          refine v_if_eq (pc := 490) C 531 ⟨by (first | assumption | omega | (unfold rg; omega)), by (first | assumption | omega | (unfold rg; omega))⟩ (by decide) dL_isSo_490 (fun h490 => ?_) (fun h490 => ?_)
          · skip
            exfalso; omega
          · skip
            refine v_aload_n (pc := 493) C 2 rfl rfl dL_isSo_493 ?_
            refine v_iload (pc := 494) C 10 rfl dL_isSo_494 ?_
            refine v_iload (pc := 496) C 13 rfl dL_isSo_496 ?_
            refine v_calliH (pc := 498) C cwh_L_echoIn (ct_L_echoIn l L v p w (by exact hp) (by omega) (by exact hw)) ⟨Nat.le_of_ble_eq_true rfl, Nat.le_of_ble_eq_true rfl⟩ rfl (Nat.le_of_ble_eq_true rfl) ⟨Nat.le_of_ble_eq_true rfl, Nat.le_of_ble_eq_true rfl⟩ rfl dL_isSo_498 (fun r9 u9 hP_3 => ?_)
            obtain ⟨hP_3, hP_3b⟩ := hP_3
            rw [hP_3, hP_3b]
            clear hP_3 hP_3b r9 u9
            refine v_topi (b := lDl v (v 15 0 0 (6 * p)) w) C (e1) ?_
            refine v_iload (pc := 501) C 1 rfl dL_isSo_501 ?_
            refine v_icmp_ne (pc := 503) C 531 ⟨by (first | assumption | omega | (unfold rg; omega)), by (first | assumption | omega | (unfold rg; omega))⟩ ⟨by (first | assumption | omega | (unfold rg; omega)), by (first | assumption | omega | (unfold rg; omega))⟩ (by decide) dL_isSo_503 (fun h503 => ?_) (fun h503 => ?_)
            · skip
              exact absurd rfl h503
            · skip
              refine v_aload_n (pc := 506) C 2 rfl rfl dL_isSo_506 ?_
              refine v_iload (pc := 507) C 10 rfl dL_isSo_507 ?_
              refine v_iload (pc := 509) C 13 rfl dL_isSo_509 ?_
              refine v_calliH (pc := 511) C cwh_L_wouldClash (ct_L_wouldClash l L v p w (by exact hp) (by omega) (by exact hw)) ⟨Nat.le_of_ble_eq_true rfl, Nat.le_of_ble_eq_true rfl⟩ rfl (Nat.le_of_ble_eq_true rfl) ⟨Nat.le_of_ble_eq_true rfl, Nat.le_of_ble_eq_true rfl⟩ rfl dL_isSo_511 (fun r9 u9 hP_4 => ?_)
              obtain ⟨hP_4, hP_4b⟩ := hP_4
              rw [hP_4, hP_4b]
              clear hP_4 hP_4b r9 u9
              refine v_topi (b := 1) C (e3) ?_
              refine v_iload (pc := 514) C 0 rfl dL_isSo_514 ?_
              refine v_if_eq (pc := 516) C 523 ⟨by (first | assumption | omega | (unfold rg; omega)), by (first | assumption | omega | (unfold rg; omega))⟩ (by decide) dL_isSo_516 (fun h516 => ?_) (fun h516 => ?_)
              · skip
                exfalso; omega
              · skip
                refine v_iconst (pc := 519) C dL_isSo_519 ?_
                refine v_goto (pc := 520) C 524 (by decide) dL_isSo_520 ?_
                refine v_icmp_ne (pc := 524) C 531 ⟨by (first | assumption | omega | (unfold rg; omega)), by (first | assumption | omega | (unfold rg; omega))⟩ ⟨by (first | assumption | omega | (unfold rg; omega)), by (first | assumption | omega | (unfold rg; omega))⟩ (by decide) dL_isSo_524 (fun h524 => ?_) (fun h524 => ?_)
                · skip
                  exfalso; omega
                · skip
                  refine v_iconst (pc := 527) C dL_isSo_527 ?_
                  refine v_goto (pc := 528) C 532 (by decide) dL_isSo_528 ?_
                  refine v_istore (pc := 532) C [(7, .int (iI 1)), (14, .int (iI 1)), (13, .int (iI (lDl v (v 15 0 0 (6 * p)) w))), (0, .ref (adr L 0 0 0)), (1, .int (iI x)), (2, .ref (adr L 14 0 0)), (3, .ref (adr L 15 0 0)), (4, .ref (adr L 16 0 0)), (5, .ref (adr L 17 0 0)), (6, .ref (adr L 18 0 0)), (9, .int (iI p)), (10, .int (iI (v 15 0 0 (6 * p)))), (11, .int (iI a)), (12, .int (iI w))] (by decide) rfl dL_isSo_532 ?_
                  refine v_iinc (pc := 534) C 13 [(12, .int (iI (w + 1))), (7, .int (iI 1)), (14, .int (iI 1)), (13, .int (iI (lDl v (v 15 0 0 (6 * p)) w))), (0, .ref (adr L 0 0 0)), (1, .int (iI x)), (2, .ref (adr L 14 0 0)), (3, .ref (adr L 15 0 0)), (4, .ref (adr L 16 0 0)), (5, .ref (adr L 17 0 0)), (6, .ref (adr L 18 0 0)), (9, .int (iI p)), (10, .int (iI (v 15 0 0 (6 * p)))), (11, .int (iI a))] rfl (by decide) rfl dL_isSo_534 ?_
                  refine v_goto (pc := 537) C 431 (by decide) dL_isSo_537 ?_
                  refine v_lsub [4, 5, 6, 7, 8, 9, 10, 1, 11, 12, 13, 0] rfl ?_
                  exact ihL431 (w + 1) (by omega) (by omega)
        · skip
          refine v_iload (pc := 462) C 10 rfl dL_isSo_462 ?_
          refine v_aload_n (pc := 464) C 3 rfl rfl dL_isSo_464 ?_
          refine v_iconst (pc := 465) C dL_isSo_465 ?_
          refine al_14 (pc := 466) C ⟨by (first | assumption | omega | (unfold rg; omega)), by (first | assumption | omega | (unfold rg; omega))⟩ dL_isSo_466 (v 14 0 0 3) (rfl) ?_
          refine v_iload (pc := 467) C 0 rfl dL_isSo_467 ?_
          refine v_iadd (pc := 469) C dL_isSo_469 ?_
          refine v_aload_n (pc := 470) C 3 rfl rfl dL_isSo_470 ?_
          refine v_aload (pc := 471) C 5 rfl dL_isSo_471 ?_
          refine v_aload (pc := 473) C 6 rfl dL_isSo_473 ?_
          refine v_calliS (pc := 475) C cw_RL_71 (ct_L_coming l L v (v 15 0 0 (6 * p)) ((v 14 0 0 3) + (lDl v (v 15 0 0 (6 * p)) w)) (by exact heR) (by omega) (by omega)) ⟨Nat.le_of_ble_eq_true rfl, Nat.le_of_ble_eq_true rfl⟩ rfl (Nat.le_of_ble_eq_true rfl) ⟨Nat.le_of_ble_eq_true rfl, Nat.le_of_ble_eq_true rfl⟩ rfl dL_isSo_475 (fun r9 u9 hP_5 => ?_)
          obtain ⟨hP_5, hP_5b⟩ := hP_5
          rw [hP_5, hP_5b]
          clear hP_5 hP_5b r9 u9
          refine v_if_le (pc := 478) C 485 ⟨by (first | assumption | omega | (unfold rg; omega)), by (first | assumption | omega | (unfold rg; omega))⟩ (by decide) dL_isSo_478 (fun h478 => ?_) (fun h478 => ?_)
          · skip
            have e3 := e2.trans (if_neg (show ¬ (lDl v (v 15 0 0 (6 * p)) (1 - w) = lDl v (v 15 0 0 (6 * p)) w ∨ 0 < lCo v (v 15 0 0 (6 * p)) (v 14 0 0 3 + lDl v (v 15 0 0 (6 * p)) w)) from by omega))
            refine v_iconst (pc := 485) C dL_isSo_485 ?_
            refine v_istore (pc := 486) C [(14, .int (iI 0)), (13, .int (iI (lDl v (v 15 0 0 (6 * p)) w))), (0, .ref (adr L 0 0 0)), (1, .int (iI x)), (2, .ref (adr L 14 0 0)), (3, .ref (adr L 15 0 0)), (4, .ref (adr L 16 0 0)), (5, .ref (adr L 17 0 0)), (6, .ref (adr L 18 0 0)), (7, .int (iI 1)), (9, .int (iI p)), (10, .int (iI (v 15 0 0 (6 * p)))), (11, .int (iI a)), (12, .int (iI w))] (by decide) rfl dL_isSo_486 ?_
            refine v_iload (pc := 488) C 9 rfl dL_isSo_488 ?_
            refine v_if_eq (pc := 490) C 531 ⟨by (first | assumption | omega | (unfold rg; omega)), by (first | assumption | omega | (unfold rg; omega))⟩ (by decide) dL_isSo_490 (fun h490 => ?_) (fun h490 => ?_)
            · skip
              exfalso; omega
            · skip
              refine v_aload_n (pc := 493) C 2 rfl rfl dL_isSo_493 ?_
              refine v_iload (pc := 494) C 10 rfl dL_isSo_494 ?_
              refine v_iload (pc := 496) C 13 rfl dL_isSo_496 ?_
              refine v_calliH (pc := 498) C cwh_L_echoIn (ct_L_echoIn l L v p w (by exact hp) (by omega) (by exact hw)) ⟨Nat.le_of_ble_eq_true rfl, Nat.le_of_ble_eq_true rfl⟩ rfl (Nat.le_of_ble_eq_true rfl) ⟨Nat.le_of_ble_eq_true rfl, Nat.le_of_ble_eq_true rfl⟩ rfl dL_isSo_498 (fun r9 u9 hP_6 => ?_)
              obtain ⟨hP_6, hP_6b⟩ := hP_6
              rw [hP_6, hP_6b]
              clear hP_6 hP_6b r9 u9
              refine v_topi (b := lDl v (v 15 0 0 (6 * p)) w) C (e1) ?_
              refine v_iload (pc := 501) C 1 rfl dL_isSo_501 ?_
              refine v_icmp_ne (pc := 503) C 531 ⟨by (first | assumption | omega | (unfold rg; omega)), by (first | assumption | omega | (unfold rg; omega))⟩ ⟨by (first | assumption | omega | (unfold rg; omega)), by (first | assumption | omega | (unfold rg; omega))⟩ (by decide) dL_isSo_503 (fun h503 => ?_) (fun h503 => ?_)
              · skip
                exact absurd rfl h503
              · skip
                refine v_aload_n (pc := 506) C 2 rfl rfl dL_isSo_506 ?_
                refine v_iload (pc := 507) C 10 rfl dL_isSo_507 ?_
                refine v_iload (pc := 509) C 13 rfl dL_isSo_509 ?_
                refine v_calliH (pc := 511) C cwh_L_wouldClash (ct_L_wouldClash l L v p w (by exact hp) (by omega) (by exact hw)) ⟨Nat.le_of_ble_eq_true rfl, Nat.le_of_ble_eq_true rfl⟩ rfl (Nat.le_of_ble_eq_true rfl) ⟨Nat.le_of_ble_eq_true rfl, Nat.le_of_ble_eq_true rfl⟩ rfl dL_isSo_511 (fun r9 u9 hP_7 => ?_)
                obtain ⟨hP_7, hP_7b⟩ := hP_7
                rw [hP_7, hP_7b]
                clear hP_7 hP_7b r9 u9
                refine v_topi (b := 0) C (e3) ?_
                refine v_iload (pc := 514) C 0 rfl dL_isSo_514 ?_
                refine v_if_eq (pc := 516) C 523 ⟨by (first | assumption | omega | (unfold rg; omega)), by (first | assumption | omega | (unfold rg; omega))⟩ (by decide) dL_isSo_516 (fun h516 => ?_) (fun h516 => ?_)
                · skip
                  refine v_iconst (pc := 523) C dL_isSo_523 ?_
                  refine v_icmp_ne (pc := 524) C 531 ⟨by (first | assumption | omega | (unfold rg; omega)), by (first | assumption | omega | (unfold rg; omega))⟩ ⟨by (first | assumption | omega | (unfold rg; omega)), by (first | assumption | omega | (unfold rg; omega))⟩ (by decide) dL_isSo_524 (fun h524 => ?_) (fun h524 => ?_)
                  · skip
                    exfalso; omega
                  · skip
                    refine v_iconst (pc := 527) C dL_isSo_527 ?_
                    refine v_goto (pc := 528) C 532 (by decide) dL_isSo_528 ?_
                    refine v_istore (pc := 532) C [(7, .int (iI 1)), (14, .int (iI 0)), (13, .int (iI (lDl v (v 15 0 0 (6 * p)) w))), (0, .ref (adr L 0 0 0)), (1, .int (iI x)), (2, .ref (adr L 14 0 0)), (3, .ref (adr L 15 0 0)), (4, .ref (adr L 16 0 0)), (5, .ref (adr L 17 0 0)), (6, .ref (adr L 18 0 0)), (9, .int (iI p)), (10, .int (iI (v 15 0 0 (6 * p)))), (11, .int (iI a)), (12, .int (iI w))] (by decide) rfl dL_isSo_532 ?_
                    refine v_iinc (pc := 534) C 13 [(12, .int (iI (w + 1))), (7, .int (iI 1)), (14, .int (iI 0)), (13, .int (iI (lDl v (v 15 0 0 (6 * p)) w))), (0, .ref (adr L 0 0 0)), (1, .int (iI x)), (2, .ref (adr L 14 0 0)), (3, .ref (adr L 15 0 0)), (4, .ref (adr L 16 0 0)), (5, .ref (adr L 17 0 0)), (6, .ref (adr L 18 0 0)), (9, .int (iI p)), (10, .int (iI (v 15 0 0 (6 * p)))), (11, .int (iI a))] rfl (by decide) rfl dL_isSo_534 ?_
                    refine v_goto (pc := 537) C 431 (by decide) dL_isSo_537 ?_
                    refine v_lsub [4, 5, 6, 7, 8, 9, 10, 1, 11, 12, 13, 0] rfl ?_
                    exact ihL431 (w + 1) (by omega) (by omega)
                · skip
                  exfalso; omega
          · skip
            have e3 := e2.trans (if_pos (show (lDl v (v 15 0 0 (6 * p)) (1 - w) = lDl v (v 15 0 0 (6 * p)) w ∨ 0 < lCo v (v 15 0 0 (6 * p)) (v 14 0 0 3 + lDl v (v 15 0 0 (6 * p)) w)) from by omega))
            refine v_iconst (pc := 481) C dL_isSo_481 ?_
            refine v_goto (pc := 482) C 486 (by decide) dL_isSo_482 ?_
            refine v_istore (pc := 486) C [(14, .int (iI 1)), (13, .int (iI (lDl v (v 15 0 0 (6 * p)) w))), (0, .ref (adr L 0 0 0)), (1, .int (iI x)), (2, .ref (adr L 14 0 0)), (3, .ref (adr L 15 0 0)), (4, .ref (adr L 16 0 0)), (5, .ref (adr L 17 0 0)), (6, .ref (adr L 18 0 0)), (7, .int (iI 1)), (9, .int (iI p)), (10, .int (iI (v 15 0 0 (6 * p)))), (11, .int (iI a)), (12, .int (iI w))] (by decide) rfl dL_isSo_486 ?_
            refine v_iload (pc := 488) C 9 rfl dL_isSo_488 ?_
            refine v_if_eq (pc := 490) C 531 ⟨by (first | assumption | omega | (unfold rg; omega)), by (first | assumption | omega | (unfold rg; omega))⟩ (by decide) dL_isSo_490 (fun h490 => ?_) (fun h490 => ?_)
            · skip
              exfalso; omega
            · skip
              refine v_aload_n (pc := 493) C 2 rfl rfl dL_isSo_493 ?_
              refine v_iload (pc := 494) C 10 rfl dL_isSo_494 ?_
              refine v_iload (pc := 496) C 13 rfl dL_isSo_496 ?_
              refine v_calliH (pc := 498) C cwh_L_echoIn (ct_L_echoIn l L v p w (by exact hp) (by omega) (by exact hw)) ⟨Nat.le_of_ble_eq_true rfl, Nat.le_of_ble_eq_true rfl⟩ rfl (Nat.le_of_ble_eq_true rfl) ⟨Nat.le_of_ble_eq_true rfl, Nat.le_of_ble_eq_true rfl⟩ rfl dL_isSo_498 (fun r9 u9 hP_8 => ?_)
              obtain ⟨hP_8, hP_8b⟩ := hP_8
              rw [hP_8, hP_8b]
              clear hP_8 hP_8b r9 u9
              refine v_topi (b := lDl v (v 15 0 0 (6 * p)) w) C (e1) ?_
              refine v_iload (pc := 501) C 1 rfl dL_isSo_501 ?_
              refine v_icmp_ne (pc := 503) C 531 ⟨by (first | assumption | omega | (unfold rg; omega)), by (first | assumption | omega | (unfold rg; omega))⟩ ⟨by (first | assumption | omega | (unfold rg; omega)), by (first | assumption | omega | (unfold rg; omega))⟩ (by decide) dL_isSo_503 (fun h503 => ?_) (fun h503 => ?_)
              · skip
                exact absurd rfl h503
              · skip
                refine v_aload_n (pc := 506) C 2 rfl rfl dL_isSo_506 ?_
                refine v_iload (pc := 507) C 10 rfl dL_isSo_507 ?_
                refine v_iload (pc := 509) C 13 rfl dL_isSo_509 ?_
                refine v_calliH (pc := 511) C cwh_L_wouldClash (ct_L_wouldClash l L v p w (by exact hp) (by omega) (by exact hw)) ⟨Nat.le_of_ble_eq_true rfl, Nat.le_of_ble_eq_true rfl⟩ rfl (Nat.le_of_ble_eq_true rfl) ⟨Nat.le_of_ble_eq_true rfl, Nat.le_of_ble_eq_true rfl⟩ rfl dL_isSo_511 (fun r9 u9 hP_9 => ?_)
                obtain ⟨hP_9, hP_9b⟩ := hP_9
                rw [hP_9, hP_9b]
                clear hP_9 hP_9b r9 u9
                refine v_topi (b := 1) C (e3) ?_
                refine v_iload (pc := 514) C 0 rfl dL_isSo_514 ?_
                refine v_if_eq (pc := 516) C 523 ⟨by (first | assumption | omega | (unfold rg; omega)), by (first | assumption | omega | (unfold rg; omega))⟩ (by decide) dL_isSo_516 (fun h516 => ?_) (fun h516 => ?_)
                · skip
                  exfalso; omega
                · skip
                  refine v_iconst (pc := 519) C dL_isSo_519 ?_
                  refine v_goto (pc := 520) C 524 (by decide) dL_isSo_520 ?_
                  refine v_icmp_ne (pc := 524) C 531 ⟨by (first | assumption | omega | (unfold rg; omega)), by (first | assumption | omega | (unfold rg; omega))⟩ ⟨by (first | assumption | omega | (unfold rg; omega)), by (first | assumption | omega | (unfold rg; omega))⟩ (by decide) dL_isSo_524 (fun h524 => ?_) (fun h524 => ?_)
                  · skip
                    exfalso; omega
                  · skip
                    refine v_iconst (pc := 527) C dL_isSo_527 ?_
                    refine v_goto (pc := 528) C 532 (by decide) dL_isSo_528 ?_
                    refine v_istore (pc := 532) C [(7, .int (iI 1)), (14, .int (iI 1)), (13, .int (iI (lDl v (v 15 0 0 (6 * p)) w))), (0, .ref (adr L 0 0 0)), (1, .int (iI x)), (2, .ref (adr L 14 0 0)), (3, .ref (adr L 15 0 0)), (4, .ref (adr L 16 0 0)), (5, .ref (adr L 17 0 0)), (6, .ref (adr L 18 0 0)), (9, .int (iI p)), (10, .int (iI (v 15 0 0 (6 * p)))), (11, .int (iI a)), (12, .int (iI w))] (by decide) rfl dL_isSo_532 ?_
                    refine v_iinc (pc := 534) C 13 [(12, .int (iI (w + 1))), (7, .int (iI 1)), (14, .int (iI 1)), (13, .int (iI (lDl v (v 15 0 0 (6 * p)) w))), (0, .ref (adr L 0 0 0)), (1, .int (iI x)), (2, .ref (adr L 14 0 0)), (3, .ref (adr L 15 0 0)), (4, .ref (adr L 16 0 0)), (5, .ref (adr L 17 0 0)), (6, .ref (adr L 18 0 0)), (9, .int (iI p)), (10, .int (iI (v 15 0 0 (6 * p)))), (11, .int (iI a))] rfl (by decide) rfl dL_isSo_534 ?_
                    refine v_goto (pc := 537) C 431 (by decide) dL_isSo_537 ?_
                    refine v_lsub [4, 5, 6, 7, 8, 9, 10, 1, 11, 12, 13, 0] rfl ?_
                    exact ihL431 (w + 1) (by omega) (by omega)
  refine v_lsub [1, 2, 3, 4, 5, 6, 7, 8, 9, 10, 11, 0] rfl ?_
  exact lb431 _ 0 (by omega) (Nat.lt_succ_self _)
set_option maxHeartbeats 4000000 in
set_option maxRecDepth 100000 in
theorem vs_so3b {pp : Program} {l : Launch} {ee : Env} {ss : State} {mm : MethodId} {args : Array Value} {bel : List Frame} {mth : Method} {cx : Code} {L : Lay} (C : Cx pp ss mm args cx cL_isSo 15 RL L) (hr : mth.sig.returnType = some .boolean) (hlk : mth.locks = false) (hsum : 0 < su L) (g v : St) (x p a : Int) (hK : K v) (hz : zz g v) (hp : 0 ≤ p ∧ p < 4) (ha : 0 ≤ a ∧ a ≤ 61) (hm : mBw (em v) p = (if a = 61 then -1 else a)) : V pp l ee { frames := 11, cells := 1, slots := 6, locals := 340 } ss mm args bel mth cx 15 L (HH L v) 1 6 (MQ bel (va_Qi (fun (r9 : Int32) (u : St) => ∃ z : Int, r9 = iI z ∧ (z = 1 ∧ zz g u)) (fun u t => HS L u t) (Af L)) args ss 1 6 (Af L)) 394 [(0, .ref (adr L 0 0 0)), (1, .int (iI x)), (2, .ref (adr L 14 0 0)), (3, .ref (adr L 15 0 0)), (4, .ref (adr L 16 0 0)), (5, .ref (adr L 17 0 0)), (6, .ref (adr L 18 0 0)), (7, .int (iI 1)), (9, .int (iI p)), (10, .int (iI (v 15 0 0 (6 * p)))), (11, .int (iI a))] [] := by
  obtain ⟨hq, hw, hct, hT, hk, h8, h1⟩ := id hK
  obtain ⟨qS0, qS1, qS2, qB0, qB1, qCl, qN, qPl, qEc⟩ := wq_s hq
  have q6 := hq.2.1
  have hmr : -1 ≤ mBw (em v) p ∧ mBw (em v) p ≤ 61 := by rw [hm]; split <;> omega
  refine v_iload (pc := 394) C 7 rfl dL_isSo_394 ?_
  refine v_if_eq (pc := 396) C 425 ⟨by (first | assumption | omega | (unfold rg; omega)), by (first | assumption | omega | (unfold rg; omega))⟩ (by decide) dL_isSo_396 (fun h396 => ?_) (fun h396 => ?_)
  · skip
    exfalso; omega
  · skip
    refine v_aload_n (pc := 399) C 0 rfl rfl dL_isSo_399 ?_
    refine v_iload (pc := 400) C 8 rfl dL_isSo_400 ?_
    refine v_calliH (pc := 402) C cwh_L_callIn (ct_L_callIn l L v p (by exact hp) (by exact hw)) ⟨Nat.le_of_ble_eq_true rfl, Nat.le_of_ble_eq_true rfl⟩ rfl (Nat.le_of_ble_eq_true rfl) ⟨Nat.le_of_ble_eq_true rfl, Nat.le_of_ble_eq_true rfl⟩ rfl dL_isSo_402 (fun r9 u9 hP_1 => ?_)
    obtain ⟨hP_1, hP_1b⟩ := hP_1
    rw [hP_1, hP_1b]
    clear hP_1 hP_1b r9 u9
    refine v_topi (b := mBw (em v) p) C (ci_tie hT.1 hp) ?_
    refine v_iload (pc := 405) C 10 rfl dL_isSo_405 ?_
    refine v_bipush (pc := 407) C rfl dL_isSo_407 ?_
    refine v_icmp_ne (pc := 409) C 416 ⟨by (first | assumption | omega | (unfold rg; omega)), by (first | assumption | omega | (unfold rg; omega))⟩ ⟨by (first | assumption | omega | (unfold rg; omega)), by (first | assumption | omega | (unfold rg; omega))⟩ (by decide) dL_isSo_409 (fun h409 => ?_) (fun h409 => ?_)
    · skip
      refine v_iload (pc := 416) C 10 rfl dL_isSo_416 ?_
      refine v_icmp_ne (pc := 418) C 425 ⟨by (first | assumption | omega | (unfold rg; omega)), by (first | assumption | omega | (unfold rg; omega))⟩ ⟨by (first | assumption | omega | (unfold rg; omega)), by (first | assumption | omega | (unfold rg; omega))⟩ (by decide) dL_isSo_418 (fun h418 => ?_) (fun h418 => ?_)
      · skip
        exfalso; first | (rw [if_pos (by omega)] at hm; omega) | (rw [if_neg (by omega)] at hm; omega)
      · skip
        refine v_iconst (pc := 421) C dL_isSo_421 ?_
        refine v_goto (pc := 422) C 426 (by decide) dL_isSo_422 ?_
        refine v_istore (pc := 426) C [(7, .int (iI 1)), (0, .ref (adr L 0 0 0)), (1, .int (iI x)), (2, .ref (adr L 14 0 0)), (3, .ref (adr L 15 0 0)), (4, .ref (adr L 16 0 0)), (5, .ref (adr L 17 0 0)), (6, .ref (adr L 18 0 0)), (9, .int (iI p)), (10, .int (iI (v 15 0 0 (6 * p)))), (11, .int (iI a))] (by decide) rfl dL_isSo_426 ?_
        refine v_lsub [1, 2, 3, 4, 5, 6, 7, 0, 8, 9, 10] rfl ?_
        exact vs_so4 C hr hlk hsum g v x p a hK hz hp
    · skip
      refine v_iconst (pc := 412) C dL_isSo_412 ?_
      refine v_goto (pc := 413) C 418 (by decide) dL_isSo_413 ?_
      refine v_icmp_ne (pc := 418) C 425 ⟨by (first | assumption | omega | (unfold rg; omega)), by (first | assumption | omega | (unfold rg; omega))⟩ ⟨by (first | assumption | omega | (unfold rg; omega)), by (first | assumption | omega | (unfold rg; omega))⟩ (by decide) dL_isSo_418 (fun h418 => ?_) (fun h418 => ?_)
      · skip
        exfalso; first | (rw [if_pos (by omega)] at hm; omega) | (rw [if_neg (by omega)] at hm; omega)
      · skip
        refine v_iconst (pc := 421) C dL_isSo_421 ?_
        refine v_goto (pc := 422) C 426 (by decide) dL_isSo_422 ?_
        refine v_istore (pc := 426) C [(7, .int (iI 1)), (0, .ref (adr L 0 0 0)), (1, .int (iI x)), (2, .ref (adr L 14 0 0)), (3, .ref (adr L 15 0 0)), (4, .ref (adr L 16 0 0)), (5, .ref (adr L 17 0 0)), (6, .ref (adr L 18 0 0)), (9, .int (iI p)), (10, .int (iI (v 15 0 0 (6 * p)))), (11, .int (iI a))] (by decide) rfl dL_isSo_426 ?_
        refine v_lsub [1, 2, 3, 4, 5, 6, 7, 0, 8, 9, 10] rfl ?_
        exact vs_so4 C hr hlk hsum g v x p a hK hz hp
set_option maxHeartbeats 4000000 in
set_option maxRecDepth 100000 in
theorem vs_so3 {pp : Program} {l : Launch} {ee : Env} {ss : State} {mm : MethodId} {args : Array Value} {bel : List Frame} {mth : Method} {cx : Code} {L : Lay} (C : Cx pp ss mm args cx cL_isSo 15 RL L) (hr : mth.sig.returnType = some .boolean) (hlk : mth.locks = false) (hsum : 0 < su L) (g v : St) (x : Int) (hK : K v) (hz : zz g v) (hx : rg x) : V pp l ee { frames := 11, cells := 1, slots := 6, locals := 340 } ss mm args bel mth cx 15 L (HH L v) 1 6 (MQ bel (va_Qi (fun (r9 : Int32) (u : St) => ∃ z : Int, r9 = iI z ∧ (z = 1 ∧ zz g u)) (fun u t => HS L u t) (Af L)) args ss 1 6 (Af L)) 328 [(0, .ref (adr L 0 0 0)), (1, .int (iI x)), (2, .ref (adr L 14 0 0)), (3, .ref (adr L 15 0 0)), (4, .ref (adr L 16 0 0)), (5, .ref (adr L 17 0 0)), (6, .ref (adr L 18 0 0)), (7, .int (iI 1))] [] := by
  obtain ⟨hq, hw, hct, hT, hk, h8, h1⟩ := id hK
  obtain ⟨qS0, qS1, qS2, qB0, qB1, qCl, qN, qPl, qEc⟩ := wq_s hq
  have q6 := hq.2.1
  refine v_iload_n (pc := 328) C 1 rfl rfl dL_isSo_328 ?_
  refine v_iconst (pc := 329) C dL_isSo_329 ?_
  refine v_calliS (pc := 330) C cw_RL_101 (ct_L_low l L v x 4 (by first | assumption | omega | (unfold rg; omega)) (by first | assumption | omega | (unfold rg; omega))) ⟨Nat.le_of_ble_eq_true rfl, Nat.le_of_ble_eq_true rfl⟩ rfl (Nat.le_of_ble_eq_true rfl) ⟨Nat.le_of_ble_eq_true rfl, Nat.le_of_ble_eq_true rfl⟩ rfl dL_isSo_330 (fun r9 u9 hP_1 => ?_)
  obtain ⟨hP_1, hP_1b⟩ := hP_1
  rw [hP_1, hP_1b]
  clear hP_1 hP_1b r9 u9
  have hp := lw_in x (n := 4) (by decide)
  obtain ⟨p, hpd⟩ : ∃ p : Int, p = lw x 4 := ⟨_, rfl⟩
  rw [← hpd] at hp
  have hpl := qPl p hp.1 hp.2
  refine v_topi (b := p) C (hpd.symm) ?_
  refine v_istore (pc := 333) C [(9, .int (iI p)), (0, .ref (adr L 0 0 0)), (1, .int (iI x)), (2, .ref (adr L 14 0 0)), (3, .ref (adr L 15 0 0)), (4, .ref (adr L 16 0 0)), (5, .ref (adr L 17 0 0)), (6, .ref (adr L 18 0 0)), (7, .int (iI 1))] (by decide) rfl dL_isSo_333 ?_
  refine v_aload_n (pc := 335) C 4 rfl rfl dL_isSo_335 ?_
  refine v_bipush (pc := 336) C rfl dL_isSo_336 ?_
  refine v_iload (pc := 338) C 0 rfl dL_isSo_338 ?_
  refine v_imul (pc := 340) C dL_isSo_340 ?_
  refine al_15 (pc := 341) C ⟨by (first | assumption | omega | (unfold rg; omega)), by (first | assumption | omega | (unfold rg; omega))⟩ dL_isSo_341 (v 15 0 0 (6 * p)) (rfl) ?_
  refine v_istore (pc := 342) C [(10, .int (iI (v 15 0 0 (6 * p)))), (9, .int (iI p)), (0, .ref (adr L 0 0 0)), (1, .int (iI x)), (2, .ref (adr L 14 0 0)), (3, .ref (adr L 15 0 0)), (4, .ref (adr L 16 0 0)), (5, .ref (adr L 17 0 0)), (6, .ref (adr L 18 0 0)), (7, .int (iI 1))] (by decide) rfl dL_isSo_342 ?_
  refine v_iconst (pc := 344) C dL_isSo_344 ?_
  refine v_istore (pc := 345) C [(11, .int (iI 0)), (10, .int (iI (v 15 0 0 (6 * p)))), (9, .int (iI p)), (0, .ref (adr L 0 0 0)), (1, .int (iI x)), (2, .ref (adr L 14 0 0)), (3, .ref (adr L 15 0 0)), (4, .ref (adr L 16 0 0)), (5, .ref (adr L 17 0 0)), (6, .ref (adr L 18 0 0)), (7, .int (iI 1))] (by decide) rfl dL_isSo_345 ?_
  have lb347 : ∀ (n9 : Nat) (a : Int), (0 ≤ a ∧ a ≤ 61) → (mBw (em v) p = frst (mMB (em v) p) (61 - a).toNat a) → (61 - a).toNat < n9 → V pp l ee { frames := 11, cells := 1, slots := 6, locals := 340 } ss mm args bel mth cx 15 L (HH L v) 1 6 (MQ bel (va_Qi (fun (r9 : Int32) (u : St) => ∃ z : Int, r9 = iI z ∧ (z = 1 ∧ zz g u)) (fun u t => HS L u t) (Af L)) args ss 1 6 (Af L)) 347 [(0, .ref (adr L 0 0 0)), (1, .int (iI x)), (2, .ref (adr L 14 0 0)), (3, .ref (adr L 15 0 0)), (4, .ref (adr L 16 0 0)), (5, .ref (adr L 17 0 0)), (6, .ref (adr L 18 0 0)), (7, .int (iI 1)), (9, .int (iI p)), (10, .int (iI (v 15 0 0 (6 * p)))), (11, .int (iI a))] [] := by
    intro n9
    induction n9 with
    | zero => intro a ha hf hm9; exact absurd hm9 (Nat.not_lt_zero _)
    | succ n9 ih9 =>
      intro a ha hf hm9
      have ihL347 := ih9
      refine v_iload (pc := 347) C 10 rfl dL_isSo_347 ?_
      refine v_bipush (pc := 349) C rfl dL_isSo_349 ?_
      refine v_icmp_ge (pc := 351) C 394 ⟨by (first | assumption | omega | (unfold rg; omega)), by (first | assumption | omega | (unfold rg; omega))⟩ ⟨by (first | assumption | omega | (unfold rg; omega)), by (first | assumption | omega | (unfold rg; omega))⟩ (by decide) dL_isSo_351 (fun h351 => ?_) (fun h351 => ?_)
      · skip
        have hm : mBw (em v) p = (if a = 61 then -1 else a) := by first | (rw [hf, show (61 - a).toNat = 0 by omega, if_pos (by omega)]; rfl) | (rw [hf, show (61 - a).toNat = (60 - a).toNat + 1 by omega, frst, if_pos (by unfold mMB; rw [decide_eq_true_eq]; first | exact Or.inl (by assumption) | exact Or.inr (by assumption)), if_neg (by omega)])
        refine v_lsub [0, 1, 2, 3, 4, 5, 6, 7, 8, 9, 10] rfl ?_
        exact vs_so3b C hr hlk hsum g v x p a hK hz hp (by omega) hm
      · skip
        refine v_iload (pc := 354) C 8 rfl dL_isSo_354 ?_
        refine v_iconst (pc := 356) C dL_isSo_356 ?_
        refine v_iload (pc := 357) C 10 rfl dL_isSo_357 ?_
        refine v_aload_n (pc := 359) C 2 rfl rfl dL_isSo_359 ?_
        refine v_aload_n (pc := 360) C 3 rfl rfl dL_isSo_360 ?_
        refine v_aload (pc := 361) C 4 rfl dL_isSo_361 ?_
        refine v_aload (pc := 363) C 5 rfl dL_isSo_363 ?_
        refine v_calliS (pc := 365) C cw_RL_134 (ct_L_meets l L v p 0 a (by exact hq) (by exact hp) (by omega) (by omega)) ⟨Nat.le_of_ble_eq_true rfl, Nat.le_of_ble_eq_true rfl⟩ rfl (Nat.le_of_ble_eq_true rfl) ⟨Nat.le_of_ble_eq_true rfl, Nat.le_of_ble_eq_true rfl⟩ rfl dL_isSo_365 (fun r9 u9 hP_2 => ?_)
        obtain ⟨hP_2, hP_2b⟩ := hP_2
        rw [hP_2, hP_2b]
        clear hP_2 hP_2b r9 u9
        refine v_if_ne (pc := 368) C 394 z1_rg (by decide) dL_isSo_368 (fun h368 => ?_) (fun h368 => ?_)
        · skip
          have h368c := z1_net h368
          have hm : mBw (em v) p = (if a = 61 then -1 else a) := by first | (rw [hf, show (61 - a).toNat = 0 by omega, if_pos (by omega)]; rfl) | (rw [hf, show (61 - a).toNat = (60 - a).toNat + 1 by omega, frst, if_pos (by unfold mMB; rw [decide_eq_true_eq]; first | exact Or.inl (by assumption) | exact Or.inr (by assumption)), if_neg (by omega)])
          refine v_lsub [0, 1, 2, 3, 4, 5, 6, 7, 8, 9, 10] rfl ?_
          exact vs_so3b C hr hlk hsum g v x p a hK hz hp (by omega) hm
        · skip
          have h368c := z1_nef h368
          refine v_iload (pc := 371) C 8 rfl dL_isSo_371 ?_
          refine v_iconst (pc := 373) C dL_isSo_373 ?_
          refine v_iload (pc := 374) C 10 rfl dL_isSo_374 ?_
          refine v_aload_n (pc := 376) C 2 rfl rfl dL_isSo_376 ?_
          refine v_aload_n (pc := 377) C 3 rfl rfl dL_isSo_377 ?_
          refine v_aload (pc := 378) C 4 rfl dL_isSo_378 ?_
          refine v_aload (pc := 380) C 5 rfl dL_isSo_380 ?_
          refine v_calliS (pc := 382) C cw_RL_134 (ct_L_meets l L v p 1 a (by exact hq) (by exact hp) (by omega) (by omega)) ⟨Nat.le_of_ble_eq_true rfl, Nat.le_of_ble_eq_true rfl⟩ rfl (Nat.le_of_ble_eq_true rfl) ⟨Nat.le_of_ble_eq_true rfl, Nat.le_of_ble_eq_true rfl⟩ rfl dL_isSo_382 (fun r9 u9 hP_3 => ?_)
          obtain ⟨hP_3, hP_3b⟩ := hP_3
          rw [hP_3, hP_3b]
          clear hP_3 hP_3b r9 u9
          refine v_if_ne (pc := 385) C 394 z1_rg (by decide) dL_isSo_385 (fun h385 => ?_) (fun h385 => ?_)
          · skip
            have h385c := z1_net h385
            have hm : mBw (em v) p = (if a = 61 then -1 else a) := by first | (rw [hf, show (61 - a).toNat = 0 by omega, if_pos (by omega)]; rfl) | (rw [hf, show (61 - a).toNat = (60 - a).toNat + 1 by omega, frst, if_pos (by unfold mMB; rw [decide_eq_true_eq]; first | exact Or.inl (by assumption) | exact Or.inr (by assumption)), if_neg (by omega)])
            refine v_lsub [0, 1, 2, 3, 4, 5, 6, 7, 8, 9, 10] rfl ?_
            exact vs_so3b C hr hlk hsum g v x p a hK hz hp (by omega) hm
          · skip
            have h385c := z1_nef h385
            refine v_iinc (pc := 388) C 10 [(11, .int (iI (a + 1))), (0, .ref (adr L 0 0 0)), (1, .int (iI x)), (2, .ref (adr L 14 0 0)), (3, .ref (adr L 15 0 0)), (4, .ref (adr L 16 0 0)), (5, .ref (adr L 17 0 0)), (6, .ref (adr L 18 0 0)), (7, .int (iI 1)), (9, .int (iI p)), (10, .int (iI (v 15 0 0 (6 * p))))] rfl (by decide) rfl dL_isSo_388 ?_
            refine v_goto (pc := 391) C 347 (by decide) dL_isSo_391 ?_
            refine v_lsub [1, 2, 3, 4, 5, 6, 7, 8, 9, 10, 0] rfl ?_
            exact ihL347 (a + 1) (by omega) (by rw [hf, show (61 - a).toNat = (61 - (a + 1)).toNat + 1 by omega, frst, if_neg (by unfold mMB; rw [decide_eq_true_eq]; intro hx; rcases hx with hx | hx; exact absurd hx (by assumption); exact absurd hx (by assumption))]) (by omega)
  refine v_lsub [3, 4, 5, 6, 7, 8, 9, 10, 2, 1, 0] rfl ?_
  exact lb347 _ 0 (by omega) (by rfl) (Nat.lt_succ_self _)
set_option maxHeartbeats 4000000 in
set_option maxRecDepth 100000 in
theorem vs_so2 {pp : Program} {l : Launch} {ee : Env} {ss : State} {mm : MethodId} {args : Array Value} {bel : List Frame} {mth : Method} {cx : Code} {L : Lay} (C : Cx pp ss mm args cx cL_isSo 15 RL L) (hr : mth.sig.returnType = some .boolean) (hlk : mth.locks = false) (hsum : 0 < su L) (g v : St) (x : Int) (hK : K v) (hz : zz g v) (hx : rg x) (hs : ∀ w, 0 ≤ w → w < 6 → v 18 0 0 w = v 15 0 0 w + v 15 0 0 (6 + w) + v 15 0 0 (12 + w) + v 15 0 0 (18 + w)) : V pp l ee { frames := 11, cells := 1, slots := 6, locals := 340 } ss mm args bel mth cx 15 L (HH L v) 1 6 (MQ bel (va_Qi (fun (r9 : Int32) (u : St) => ∃ z : Int, r9 = iI z ∧ (z = 1 ∧ zz g u)) (fun u t => HS L u t) (Af L)) args ss 1 6 (Af L)) 260 [(0, .ref (adr L 0 0 0)), (1, .int (iI x)), (2, .ref (adr L 14 0 0)), (3, .ref (adr L 15 0 0)), (4, .ref (adr L 16 0 0)), (5, .ref (adr L 17 0 0)), (6, .ref (adr L 18 0 0)), (7, .int (iI 1))] [] := by
  obtain ⟨hq, hw, hct, hT, hk, h8, h1⟩ := id hK
  obtain ⟨qS0, qS1, qS2, qB0, qB1, qCl, qN, qPl, qEc⟩ := wq_s hq
  have q6 := hq.2.1
  have qP := hq.2.2.1
  have p1 := qP 1 (by decide) (by decide)
  have p3 := qP 3 (by decide) (by decide)
  have p4 := qP 4 (by decide) (by decide)
  have p5 := qP 5 (by decide) (by decide)
  have p7 := qP 7 (by decide) (by decide)
  have p9 := qP 9 (by decide) (by decide)
  have p10 := qP 10 (by decide) (by decide)
  have p11 := qP 11 (by decide) (by decide)
  have p13 := qP 13 (by decide) (by decide)
  have p15 := qP 15 (by decide) (by decide)
  have p16 := qP 16 (by decide) (by decide)
  have p17 := qP 17 (by decide) (by decide)
  have p19 := qP 19 (by decide) (by decide)
  have p21 := qP 21 (by decide) (by decide)
  have p22 := qP 22 (by decide) (by decide)
  have p23 := qP 23 (by decide) (by decide)
  have hs1 : v 18 0 0 1 = v 15 0 0 1 + v 15 0 0 7 + v 15 0 0 13 + v 15 0 0 19 := hs 1 (by decide) (by decide)
  have hs3 : v 18 0 0 3 = v 15 0 0 3 + v 15 0 0 9 + v 15 0 0 15 + v 15 0 0 21 := hs 3 (by decide) (by decide)
  have hs4 : v 18 0 0 4 = v 15 0 0 4 + v 15 0 0 10 + v 15 0 0 16 + v 15 0 0 22 := hs 4 (by decide) (by decide)
  have hs5 : v 18 0 0 5 = v 15 0 0 5 + v 15 0 0 11 + v 15 0 0 17 + v 15 0 0 23 := hs 5 (by decide) (by decide)
  obtain ⟨-, -, -, -, q8⟩ := id hq
  have hk2 : v 14 0 0 8 = (v 15 0 0 3 + v 15 0 0 9 + v 15 0 0 15 + v 15 0 0 21) + (v 15 0 0 4 + v 15 0 0 10 + v 15 0 0 16 + v 15 0 0 22) + (v 15 0 0 5 + v 15 0 0 11 + v 15 0 0 17 + v 15 0 0 23) + v 14 0 0 9 := hk
  have e4 : smN v 0 4 = v 18 0 0 3 := (k_sm hK (w := 3) (by decide)).trans hs3.symm
  have e5 : smN v 0 5 = v 18 0 0 4 := (k_sm hK (w := 4) (by decide)).trans hs4.symm
  have e6 : smN v 0 6 = v 18 0 0 5 := (k_sm hK (w := 5) (by decide)).trans hs5.symm
  have hF := sh_F (a := v 18 0 0 3) (b := ((v 18 0 0 3) + (v 18 0 0 4)) + (v 18 0 0 5)) (by omega) (by omega) (by omega)
  have hN := sh_nn (a := v 18 0 0 3) (b := ((v 18 0 0 3) + (v 18 0 0 4)) + (v 18 0 0 5)) (by omega) (by omega) (by omega)
  have hsk : shK v 0 = shD (v 18 0 0 3) (((v 18 0 0 3) + (v 18 0 0 4)) + (v 18 0 0 5)) := by unfold shK; rw [e4, e5, e6]
  refine v_aload (pc := 260) C 6 rfl dL_isSo_260 ?_
  refine v_iconst (pc := 262) C dL_isSo_262 ?_
  refine al_18 (pc := 263) C hsum ⟨by (first | assumption | omega | (unfold rg; omega)), by (first | assumption | omega | (unfold rg; omega))⟩ dL_isSo_263 (v 18 0 0 3) (rfl) ?_
  refine v_aload (pc := 264) C 6 rfl dL_isSo_264 ?_
  refine v_iconst (pc := 266) C dL_isSo_266 ?_
  refine al_18 (pc := 267) C hsum ⟨by (first | assumption | omega | (unfold rg; omega)), by (first | assumption | omega | (unfold rg; omega))⟩ dL_isSo_267 (v 18 0 0 4) (rfl) ?_
  refine v_iadd (pc := 268) C dL_isSo_268 ?_
  refine v_aload (pc := 269) C 6 rfl dL_isSo_269 ?_
  refine v_iconst (pc := 271) C dL_isSo_271 ?_
  refine al_18 (pc := 272) C hsum ⟨by (first | assumption | omega | (unfold rg; omega)), by (first | assumption | omega | (unfold rg; omega))⟩ dL_isSo_272 (v 18 0 0 5) (rfl) ?_
  refine v_iadd (pc := 273) C dL_isSo_273 ?_
  refine v_istore (pc := 274) C [(8, .int (iI (((v 18 0 0 3) + (v 18 0 0 4)) + (v 18 0 0 5)))), (0, .ref (adr L 0 0 0)), (1, .int (iI x)), (2, .ref (adr L 14 0 0)), (3, .ref (adr L 15 0 0)), (4, .ref (adr L 16 0 0)), (5, .ref (adr L 17 0 0)), (6, .ref (adr L 18 0 0)), (7, .int (iI 1))] (by decide) rfl dL_isSo_274 ?_
  refine v_iload (pc := 276) C 8 rfl dL_isSo_276 ?_
  refine v_if_eq (pc := 278) C 325 ⟨by (first | assumption | omega | (unfold rg; omega)), by (first | assumption | omega | (unfold rg; omega))⟩ (by decide) dL_isSo_278 (fun h278 => ?_) (fun h278 => ?_)
  · skip
    exfalso; omega
  · skip
    refine v_aload_n (pc := 281) C 3 rfl rfl dL_isSo_281 ?_
    refine v_bipush (pc := 282) C rfl dL_isSo_282 ?_
    refine al_14 (pc := 284) C ⟨by (first | assumption | omega | (unfold rg; omega)), by (first | assumption | omega | (unfold rg; omega))⟩ dL_isSo_284 (v 14 0 0 8) (rfl) ?_
    refine v_iload (pc := 285) C 0 rfl dL_isSo_285 ?_
    refine v_aload_n (pc := 287) C 3 rfl rfl dL_isSo_287 ?_
    refine v_bipush (pc := 288) C rfl dL_isSo_288 ?_
    refine al_14 (pc := 290) C ⟨by (first | assumption | omega | (unfold rg; omega)), by (first | assumption | omega | (unfold rg; omega))⟩ dL_isSo_290 (v 14 0 0 9) (rfl) ?_
    refine v_iadd (pc := 291) C dL_isSo_291 ?_
    refine v_icmp_ne (pc := 292) C 325 ⟨by (first | assumption | omega | (unfold rg; omega)), by (first | assumption | omega | (unfold rg; omega))⟩ ⟨by (first | assumption | omega | (unfold rg; omega)), by (first | assumption | omega | (unfold rg; omega))⟩ (by decide) dL_isSo_292 (fun h292 => ?_) (fun h292 => ?_)
    · skip
      exfalso; omega
    · skip
      refine v_aload_n (pc := 295) C 1 rfl rfl dL_isSo_295 ?_
      refine v_calldV (pc := 296) C cw_RL_130 rcv_0 (ct_X6_answeredShare l L v (by first | assumption | omega | (unfold rg; omega)) (by first | assumption | omega | (unfold rg; omega))) ⟨Nat.le_of_ble_eq_true rfl, Nat.le_of_ble_eq_true rfl⟩ rfl (Nat.le_of_ble_eq_true rfl) ⟨Nat.le_of_ble_eq_true rfl, Nat.le_of_ble_eq_true rfl⟩ rfl dL_isSo_296 (fun r9 u9 hP_1 => ?_)
      obtain ⟨hP_1, hP_1b⟩ := hP_1
      rw [hP_1, hP_1b]
      clear hP_1 hP_1b r9 u9
      refine v_iload (pc := 299) C 0 rfl dL_isSo_299 ?_
      refine v_if_ne (pc := 301) C 308 ⟨by (first | assumption | omega | (unfold rg; omega)), by (first | assumption | omega | (unfold rg; omega))⟩ (by decide) dL_isSo_301 (fun h301 => ?_) (fun h301 => ?_)
      · skip
        refine v_aload (pc := 308) C 7 rfl dL_isSo_308 ?_
        refine v_iconst (pc := 310) C dL_isSo_310 ?_
        refine al_18 (pc := 311) C hsum ⟨by (first | assumption | omega | (unfold rg; omega)), by (first | assumption | omega | (unfold rg; omega))⟩ dL_isSo_311 (v 18 0 0 3) (rfl) ?_
        refine v_i2d (pc := 312) C dL_isSo_312 ?_
        refine v_iload (pc := 313) C 0 rfl dL_isSo_313 ?_
        refine v_i2d (pc := 315) C dL_isSo_315 ?_
        refine v_ddiv (pc := 316) C (by unfold shD at hN; rw [if_pos (by omega)] at hN; exact hN) dL_isSo_316 ?_
        refine v_dcmp (pc := 317) (z := 0) C (by rw [hsk, show FP.dcmp (shD (v 18 0 0 3) (((v 18 0 0 3) + (v 18 0 0 4)) + (v 18 0 0 5))) _ = some .eq from by first | (have hd : shD (v 18 0 0 3) (((v 18 0 0 3) + (v 18 0 0 4)) + (v 18 0 0 5)) = FP.dconst1 := (by unfold shD; rw [if_neg (by omega)]); rw [hd] at hF ⊢; exact dc_self hF) | (have hd : shD (v 18 0 0 3) (((v 18 0 0 3) + (v 18 0 0 4)) + (v 18 0 0 5)) = FP.ddiv (FP.i2d (iI (v 18 0 0 3))) (FP.i2d (iI (((v 18 0 0 3) + (v 18 0 0 4)) + (v 18 0 0 5)))) := (by unfold shD; rw [if_pos (by omega)]); rw [hd] at hF ⊢; exact dc_self hF)]; rfl) dL_isSo_317 ?_
        refine v_if_ne (pc := 318) C 325 ⟨by (first | assumption | omega | (unfold rg; omega)), by (first | assumption | omega | (unfold rg; omega))⟩ (by decide) dL_isSo_318 (fun h318 => ?_) (fun h318 => ?_)
        · skip
          exfalso; omega
        · skip
          refine v_iconst (pc := 321) C dL_isSo_321 ?_
          refine v_goto (pc := 322) C 326 (by decide) dL_isSo_322 ?_
          refine v_istore (pc := 326) C [(7, .int (iI 1)), (8, .int (iI (((v 18 0 0 3) + (v 18 0 0 4)) + (v 18 0 0 5)))), (0, .ref (adr L 0 0 0)), (1, .int (iI x)), (2, .ref (adr L 14 0 0)), (3, .ref (adr L 15 0 0)), (4, .ref (adr L 16 0 0)), (5, .ref (adr L 17 0 0)), (6, .ref (adr L 18 0 0))] (by decide) rfl dL_isSo_326 ?_
          refine v_lsub [2, 3, 4, 5, 6, 7, 8, 0] rfl ?_
          exact vs_so3 C hr hlk hsum g v x hK hz hx
      · skip
        refine v_dconst1 (pc := 304) C dL_isSo_304 ?_
        refine v_goto (pc := 305) C 317 (by decide) dL_isSo_305 ?_
        refine v_dcmp (pc := 317) (z := 0) C (by rw [hsk, show FP.dcmp (shD (v 18 0 0 3) (((v 18 0 0 3) + (v 18 0 0 4)) + (v 18 0 0 5))) _ = some .eq from by first | (have hd : shD (v 18 0 0 3) (((v 18 0 0 3) + (v 18 0 0 4)) + (v 18 0 0 5)) = FP.dconst1 := (by unfold shD; rw [if_neg (by omega)]); rw [hd] at hF ⊢; exact dc_self hF) | (have hd : shD (v 18 0 0 3) (((v 18 0 0 3) + (v 18 0 0 4)) + (v 18 0 0 5)) = FP.ddiv (FP.i2d (iI (v 18 0 0 3))) (FP.i2d (iI (((v 18 0 0 3) + (v 18 0 0 4)) + (v 18 0 0 5)))) := (by unfold shD; rw [if_pos (by omega)]); rw [hd] at hF ⊢; exact dc_self hF)]; rfl) dL_isSo_317 ?_
        refine v_if_ne (pc := 318) C 325 ⟨by (first | assumption | omega | (unfold rg; omega)), by (first | assumption | omega | (unfold rg; omega))⟩ (by decide) dL_isSo_318 (fun h318 => ?_) (fun h318 => ?_)
        · skip
          exfalso; omega
        · skip
          refine v_iconst (pc := 321) C dL_isSo_321 ?_
          refine v_goto (pc := 322) C 326 (by decide) dL_isSo_322 ?_
          refine v_istore (pc := 326) C [(7, .int (iI 1)), (8, .int (iI (((v 18 0 0 3) + (v 18 0 0 4)) + (v 18 0 0 5)))), (0, .ref (adr L 0 0 0)), (1, .int (iI x)), (2, .ref (adr L 14 0 0)), (3, .ref (adr L 15 0 0)), (4, .ref (adr L 16 0 0)), (5, .ref (adr L 17 0 0)), (6, .ref (adr L 18 0 0))] (by decide) rfl dL_isSo_326 ?_
          refine v_lsub [2, 3, 4, 5, 6, 7, 8, 0] rfl ?_
          exact vs_so3 C hr hlk hsum g v x hK hz hx
set_option maxHeartbeats 4000000 in
set_option maxRecDepth 100000 in
theorem vs_so1 {pp : Program} {l : Launch} {ee : Env} {ss : State} {mm : MethodId} {args : Array Value} {bel : List Frame} {mth : Method} {cx : Code} {L : Lay} (C : Cx pp ss mm args cx cL_isSo 15 RL L) (hr : mth.sig.returnType = some .boolean) (hlk : mth.locks = false) (hsum : 0 < su L) (g v : St) (x : Int) (hK : K v) (hz : zz g v) (hx : rg x) (hs : ∀ w, 0 ≤ w → w < 6 → v 18 0 0 w = v 15 0 0 w + v 15 0 0 (6 + w) + v 15 0 0 (12 + w) + v 15 0 0 (18 + w)) : V pp l ee { frames := 11, cells := 1, slots := 6, locals := 340 } ss mm args bel mth cx 15 L (HH L v) 1 6 (MQ bel (va_Qi (fun (r9 : Int32) (u : St) => ∃ z : Int, r9 = iI z ∧ (z = 1 ∧ zz g u)) (fun u t => HS L u t) (Af L)) args ss 1 6 (Af L)) 111 [(0, .ref (adr L 0 0 0)), (1, .int (iI x)), (2, .ref (adr L 14 0 0)), (3, .ref (adr L 15 0 0)), (4, .ref (adr L 16 0 0)), (5, .ref (adr L 17 0 0)), (6, .ref (adr L 18 0 0))] [] := by
  obtain ⟨hq, hw, hct, hT, hk, h8, h1⟩ := id hK
  obtain ⟨qS0, qS1, qS2, qB0, qB1, qCl, qN, qPl, qEc⟩ := wq_s hq
  have q6 := hq.2.1
  have qP := hq.2.2.1
  have p1 := qP 1 (by decide) (by decide)
  have p3 := qP 3 (by decide) (by decide)
  have p4 := qP 4 (by decide) (by decide)
  have p5 := qP 5 (by decide) (by decide)
  have p7 := qP 7 (by decide) (by decide)
  have p9 := qP 9 (by decide) (by decide)
  have p10 := qP 10 (by decide) (by decide)
  have p11 := qP 11 (by decide) (by decide)
  have p13 := qP 13 (by decide) (by decide)
  have p15 := qP 15 (by decide) (by decide)
  have p16 := qP 16 (by decide) (by decide)
  have p17 := qP 17 (by decide) (by decide)
  have p19 := qP 19 (by decide) (by decide)
  have p21 := qP 21 (by decide) (by decide)
  have p22 := qP 22 (by decide) (by decide)
  have p23 := qP 23 (by decide) (by decide)
  have hs1 : v 18 0 0 1 = v 15 0 0 1 + v 15 0 0 7 + v 15 0 0 13 + v 15 0 0 19 := hs 1 (by decide) (by decide)
  have hs3 : v 18 0 0 3 = v 15 0 0 3 + v 15 0 0 9 + v 15 0 0 15 + v 15 0 0 21 := hs 3 (by decide) (by decide)
  have hs4 : v 18 0 0 4 = v 15 0 0 4 + v 15 0 0 10 + v 15 0 0 16 + v 15 0 0 22 := hs 4 (by decide) (by decide)
  have hs5 : v 18 0 0 5 = v 15 0 0 5 + v 15 0 0 11 + v 15 0 0 17 + v 15 0 0 23 := hs 5 (by decide) (by decide)
  obtain ⟨-, -, -, q7, q8⟩ := id hq
  obtain ⟨c0, c1, c2, c3, c5, c6, c7, c8, c9, c10⟩ := k_ct hK
  refine v_aload_n (pc := 111) C 0 rfl rfl dL_isSo_111 ?_
  refine v_aload_n (pc := 112) C 2 rfl rfl dL_isSo_112 ?_
  refine v_aload (pc := 113) C 4 rfl dL_isSo_113 ?_
  refine v_aload (pc := 115) C 5 rfl dL_isSo_115 ?_
  refine v_calliS (pc := 117) C cw_RL_126 (ct_L_areEchoes l L v (by exact hq) (by exact hw) (by exact hT)) ⟨Nat.le_of_ble_eq_true rfl, Nat.le_of_ble_eq_true rfl⟩ rfl (Nat.le_of_ble_eq_true rfl) ⟨Nat.le_of_ble_eq_true rfl, Nat.le_of_ble_eq_true rfl⟩ rfl dL_isSo_117 (fun r9 u9 hP_1 => ?_)
  obtain ⟨hP_1, hP_1b⟩ := hP_1
  rw [hP_1, hP_1b]
  clear hP_1 hP_1b r9 u9
  refine v_if_eq (pc := 120) C 257 ⟨by (first | assumption | omega | (unfold rg; omega)), by (first | assumption | omega | (unfold rg; omega))⟩ (by decide) dL_isSo_120 (fun h120 => ?_) (fun h120 => ?_)
  · skip
    exfalso; omega
  · skip
    refine v_aload_n (pc := 123) C 0 rfl rfl dL_isSo_123 ?_
    refine v_iconst (pc := 124) C dL_isSo_124 ?_
    refine v_calliH (pc := 125) C cwh_L_count (ct_L_count l L v 0 (by decide) (by exact hw)) ⟨Nat.le_of_ble_eq_true rfl, Nat.le_of_ble_eq_true rfl⟩ rfl (Nat.le_of_ble_eq_true rfl) ⟨Nat.le_of_ble_eq_true rfl, Nat.le_of_ble_eq_true rfl⟩ rfl dL_isSo_125 (fun r9 u9 hP_2 => ?_)
    obtain ⟨hP_2, hP_2b⟩ := hP_2
    rw [hP_2, hP_2b]
    clear hP_2 hP_2b r9 u9
    refine v_aload_n (pc := 128) C 2 rfl rfl dL_isSo_128 ?_
    refine v_iconst (pc := 129) C dL_isSo_129 ?_
    refine al_14 (pc := 130) C ⟨by (first | assumption | omega | (unfold rg; omega)), by (first | assumption | omega | (unfold rg; omega))⟩ dL_isSo_130 (v 14 0 0 3) (rfl) ?_
    refine v_icmp_ne (pc := 131) C 257 ⟨by (first | assumption | omega | (unfold rg; omega)), by (first | assumption | omega | (unfold rg; omega))⟩ ⟨by (first | assumption | omega | (unfold rg; omega)), by (first | assumption | omega | (unfold rg; omega))⟩ (by decide) dL_isSo_131 (fun h131 => ?_) (fun h131 => ?_)
    · skip
      exfalso; omega
    · skip
      refine v_aload_n (pc := 134) C 0 rfl rfl dL_isSo_134 ?_
      refine v_iconst (pc := 135) C dL_isSo_135 ?_
      refine v_calliH (pc := 136) C cwh_L_count (ct_L_count l L v 1 (by decide) (by exact hw)) ⟨Nat.le_of_ble_eq_true rfl, Nat.le_of_ble_eq_true rfl⟩ rfl (Nat.le_of_ble_eq_true rfl) ⟨Nat.le_of_ble_eq_true rfl, Nat.le_of_ble_eq_true rfl⟩ rfl dL_isSo_136 (fun r9 u9 hP_3 => ?_)
      obtain ⟨hP_3, hP_3b⟩ := hP_3
      rw [hP_3, hP_3b]
      clear hP_3 hP_3b r9 u9
      refine v_aload_n (pc := 139) C 2 rfl rfl dL_isSo_139 ?_
      refine v_iconst (pc := 140) C dL_isSo_140 ?_
      refine al_14 (pc := 141) C ⟨by (first | assumption | omega | (unfold rg; omega)), by (first | assumption | omega | (unfold rg; omega))⟩ dL_isSo_141 (v 14 0 0 4) (rfl) ?_
      refine v_icmp_ne (pc := 142) C 257 ⟨by (first | assumption | omega | (unfold rg; omega)), by (first | assumption | omega | (unfold rg; omega))⟩ ⟨by (first | assumption | omega | (unfold rg; omega)), by (first | assumption | omega | (unfold rg; omega))⟩ (by decide) dL_isSo_142 (fun h142 => ?_) (fun h142 => ?_)
      · skip
        exfalso; omega
      · skip
        refine v_aload_n (pc := 145) C 0 rfl rfl dL_isSo_145 ?_
        refine v_iconst (pc := 146) C dL_isSo_146 ?_
        refine v_calliH (pc := 147) C cwh_L_count (ct_L_count l L v 2 (by decide) (by exact hw)) ⟨Nat.le_of_ble_eq_true rfl, Nat.le_of_ble_eq_true rfl⟩ rfl (Nat.le_of_ble_eq_true rfl) ⟨Nat.le_of_ble_eq_true rfl, Nat.le_of_ble_eq_true rfl⟩ rfl dL_isSo_147 (fun r9 u9 hP_4 => ?_)
        obtain ⟨hP_4, hP_4b⟩ := hP_4
        rw [hP_4, hP_4b]
        clear hP_4 hP_4b r9 u9
        refine v_aload_n (pc := 150) C 2 rfl rfl dL_isSo_150 ?_
        refine v_iconst (pc := 151) C dL_isSo_151 ?_
        refine al_14 (pc := 152) C ⟨by (first | assumption | omega | (unfold rg; omega)), by (first | assumption | omega | (unfold rg; omega))⟩ dL_isSo_152 (v 14 0 0 5) (rfl) ?_
        refine v_icmp_ne (pc := 153) C 257 ⟨by (first | assumption | omega | (unfold rg; omega)), by (first | assumption | omega | (unfold rg; omega))⟩ ⟨by (first | assumption | omega | (unfold rg; omega)), by (first | assumption | omega | (unfold rg; omega))⟩ (by decide) dL_isSo_153 (fun h153 => ?_) (fun h153 => ?_)
        · skip
          exfalso; omega
        · skip
          refine v_aload_n (pc := 156) C 0 rfl rfl dL_isSo_156 ?_
          refine v_iconst (pc := 157) C dL_isSo_157 ?_
          refine v_calliH (pc := 158) C cwh_L_count (ct_L_count l L v 3 (by decide) (by exact hw)) ⟨Nat.le_of_ble_eq_true rfl, Nat.le_of_ble_eq_true rfl⟩ rfl (Nat.le_of_ble_eq_true rfl) ⟨Nat.le_of_ble_eq_true rfl, Nat.le_of_ble_eq_true rfl⟩ rfl dL_isSo_158 (fun r9 u9 hP_5 => ?_)
          obtain ⟨hP_5, hP_5b⟩ := hP_5
          rw [hP_5, hP_5b]
          clear hP_5 hP_5b r9 u9
          refine v_aload_n (pc := 161) C 2 rfl rfl dL_isSo_161 ?_
          refine v_bipush (pc := 162) C rfl dL_isSo_162 ?_
          refine al_14 (pc := 164) C ⟨by (first | assumption | omega | (unfold rg; omega)), by (first | assumption | omega | (unfold rg; omega))⟩ dL_isSo_164 (v 14 0 0 6) (rfl) ?_
          refine v_if_le (pc := 165) C 172 ⟨by (first | assumption | omega | (unfold rg; omega)), by (first | assumption | omega | (unfold rg; omega))⟩ (by decide) dL_isSo_165 (fun h165 => ?_) (fun h165 => ?_)
          · skip
            refine v_iconst (pc := 172) C dL_isSo_172 ?_
            refine v_icmp_ne (pc := 173) C 257 ⟨by (first | assumption | omega | (unfold rg; omega)), by (first | assumption | omega | (unfold rg; omega))⟩ ⟨by (first | assumption | omega | (unfold rg; omega)), by (first | assumption | omega | (unfold rg; omega))⟩ (by decide) dL_isSo_173 (fun h173 => ?_) (fun h173 => ?_)
            · skip
              exfalso; omega
            · skip
              refine v_aload_n (pc := 176) C 0 rfl rfl dL_isSo_176 ?_
              refine v_iconst (pc := 177) C dL_isSo_177 ?_
              refine v_calliH (pc := 178) C cwh_L_count (ct_L_count l L v 5 (by decide) (by exact hw)) ⟨Nat.le_of_ble_eq_true rfl, Nat.le_of_ble_eq_true rfl⟩ rfl (Nat.le_of_ble_eq_true rfl) ⟨Nat.le_of_ble_eq_true rfl, Nat.le_of_ble_eq_true rfl⟩ rfl dL_isSo_178 (fun r9 u9 hP_6 => ?_)
              obtain ⟨hP_6, hP_6b⟩ := hP_6
              rw [hP_6, hP_6b]
              clear hP_6 hP_6b r9 u9
              refine v_aload_n (pc := 181) C 2 rfl rfl dL_isSo_181 ?_
              refine v_bipush (pc := 182) C rfl dL_isSo_182 ?_
              refine al_14 (pc := 184) C ⟨by (first | assumption | omega | (unfold rg; omega)), by (first | assumption | omega | (unfold rg; omega))⟩ dL_isSo_184 (v 14 0 0 8) (rfl) ?_
              refine v_icmp_ne (pc := 185) C 257 ⟨by (first | assumption | omega | (unfold rg; omega)), by (first | assumption | omega | (unfold rg; omega))⟩ ⟨by (first | assumption | omega | (unfold rg; omega)), by (first | assumption | omega | (unfold rg; omega))⟩ (by decide) dL_isSo_185 (fun h185 => ?_) (fun h185 => ?_)
              · skip
                exfalso; omega
              · skip
                refine v_aload_n (pc := 188) C 0 rfl rfl dL_isSo_188 ?_
                refine v_bipush (pc := 189) C rfl dL_isSo_189 ?_
                refine v_calliH (pc := 191) C cwh_L_count (ct_L_count l L v 6 (by decide) (by exact hw)) ⟨Nat.le_of_ble_eq_true rfl, Nat.le_of_ble_eq_true rfl⟩ rfl (Nat.le_of_ble_eq_true rfl) ⟨Nat.le_of_ble_eq_true rfl, Nat.le_of_ble_eq_true rfl⟩ rfl dL_isSo_191 (fun r9 u9 hP_7 => ?_)
                obtain ⟨hP_7, hP_7b⟩ := hP_7
                rw [hP_7, hP_7b]
                clear hP_7 hP_7b r9 u9
                refine v_aload (pc := 194) C 6 rfl dL_isSo_194 ?_
                refine v_iconst (pc := 196) C dL_isSo_196 ?_
                refine al_18 (pc := 197) C hsum ⟨by (first | assumption | omega | (unfold rg; omega)), by (first | assumption | omega | (unfold rg; omega))⟩ dL_isSo_197 (v 18 0 0 3) (rfl) ?_
                refine v_icmp_ne (pc := 198) C 257 ⟨by (first | assumption | omega | (unfold rg; omega)), by (first | assumption | omega | (unfold rg; omega))⟩ ⟨by (first | assumption | omega | (unfold rg; omega)), by (first | assumption | omega | (unfold rg; omega))⟩ (by decide) dL_isSo_198 (fun h198 => ?_) (fun h198 => ?_)
                · skip
                  exfalso; omega
                · skip
                  refine v_aload_n (pc := 201) C 0 rfl rfl dL_isSo_201 ?_
                  refine v_bipush (pc := 202) C rfl dL_isSo_202 ?_
                  refine v_calliH (pc := 204) C cwh_L_count (ct_L_count l L v 7 (by decide) (by exact hw)) ⟨Nat.le_of_ble_eq_true rfl, Nat.le_of_ble_eq_true rfl⟩ rfl (Nat.le_of_ble_eq_true rfl) ⟨Nat.le_of_ble_eq_true rfl, Nat.le_of_ble_eq_true rfl⟩ rfl dL_isSo_204 (fun r9 u9 hP_8 => ?_)
                  obtain ⟨hP_8, hP_8b⟩ := hP_8
                  rw [hP_8, hP_8b]
                  clear hP_8 hP_8b r9 u9
                  refine v_aload (pc := 207) C 6 rfl dL_isSo_207 ?_
                  refine v_iconst (pc := 209) C dL_isSo_209 ?_
                  refine al_18 (pc := 210) C hsum ⟨by (first | assumption | omega | (unfold rg; omega)), by (first | assumption | omega | (unfold rg; omega))⟩ dL_isSo_210 (v 18 0 0 4) (rfl) ?_
                  refine v_icmp_ne (pc := 211) C 257 ⟨by (first | assumption | omega | (unfold rg; omega)), by (first | assumption | omega | (unfold rg; omega))⟩ ⟨by (first | assumption | omega | (unfold rg; omega)), by (first | assumption | omega | (unfold rg; omega))⟩ (by decide) dL_isSo_211 (fun h211 => ?_) (fun h211 => ?_)
                  · skip
                    exfalso; omega
                  · skip
                    refine v_aload_n (pc := 214) C 0 rfl rfl dL_isSo_214 ?_
                    refine v_bipush (pc := 215) C rfl dL_isSo_215 ?_
                    refine v_calliH (pc := 217) C cwh_L_count (ct_L_count l L v 8 (by decide) (by exact hw)) ⟨Nat.le_of_ble_eq_true rfl, Nat.le_of_ble_eq_true rfl⟩ rfl (Nat.le_of_ble_eq_true rfl) ⟨Nat.le_of_ble_eq_true rfl, Nat.le_of_ble_eq_true rfl⟩ rfl dL_isSo_217 (fun r9 u9 hP_9 => ?_)
                    obtain ⟨hP_9, hP_9b⟩ := hP_9
                    rw [hP_9, hP_9b]
                    clear hP_9 hP_9b r9 u9
                    refine v_aload (pc := 220) C 6 rfl dL_isSo_220 ?_
                    refine v_iconst (pc := 222) C dL_isSo_222 ?_
                    refine al_18 (pc := 223) C hsum ⟨by (first | assumption | omega | (unfold rg; omega)), by (first | assumption | omega | (unfold rg; omega))⟩ dL_isSo_223 (v 18 0 0 5) (rfl) ?_
                    refine v_icmp_ne (pc := 224) C 257 ⟨by (first | assumption | omega | (unfold rg; omega)), by (first | assumption | omega | (unfold rg; omega))⟩ ⟨by (first | assumption | omega | (unfold rg; omega)), by (first | assumption | omega | (unfold rg; omega))⟩ (by decide) dL_isSo_224 (fun h224 => ?_) (fun h224 => ?_)
                    · skip
                      exfalso; omega
                    · skip
                      refine v_aload_n (pc := 227) C 0 rfl rfl dL_isSo_227 ?_
                      refine v_bipush (pc := 228) C rfl dL_isSo_228 ?_
                      refine v_calliH (pc := 230) C cwh_L_count (ct_L_count l L v 9 (by decide) (by exact hw)) ⟨Nat.le_of_ble_eq_true rfl, Nat.le_of_ble_eq_true rfl⟩ rfl (Nat.le_of_ble_eq_true rfl) ⟨Nat.le_of_ble_eq_true rfl, Nat.le_of_ble_eq_true rfl⟩ rfl dL_isSo_230 (fun r9 u9 hP_10 => ?_)
                      obtain ⟨hP_10, hP_10b⟩ := hP_10
                      rw [hP_10, hP_10b]
                      clear hP_10 hP_10b r9 u9
                      refine v_aload (pc := 233) C 6 rfl dL_isSo_233 ?_
                      refine v_iconst (pc := 235) C dL_isSo_235 ?_
                      refine al_18 (pc := 236) C hsum ⟨by (first | assumption | omega | (unfold rg; omega)), by (first | assumption | omega | (unfold rg; omega))⟩ dL_isSo_236 (v 18 0 0 1) (rfl) ?_
                      refine v_icmp_ne (pc := 237) C 257 ⟨by (first | assumption | omega | (unfold rg; omega)), by (first | assumption | omega | (unfold rg; omega))⟩ ⟨by (first | assumption | omega | (unfold rg; omega)), by (first | assumption | omega | (unfold rg; omega))⟩ (by decide) dL_isSo_237 (fun h237 => ?_) (fun h237 => ?_)
                      · skip
                        exfalso; omega
                      · skip
                        refine v_aload_n (pc := 240) C 0 rfl rfl dL_isSo_240 ?_
                        refine v_bipush (pc := 241) C rfl dL_isSo_241 ?_
                        refine v_calliH (pc := 243) C cwh_L_count (ct_L_count l L v 10 (by decide) (by exact hw)) ⟨Nat.le_of_ble_eq_true rfl, Nat.le_of_ble_eq_true rfl⟩ rfl (Nat.le_of_ble_eq_true rfl) ⟨Nat.le_of_ble_eq_true rfl, Nat.le_of_ble_eq_true rfl⟩ rfl dL_isSo_243 (fun r9 u9 hP_11 => ?_)
                        obtain ⟨hP_11, hP_11b⟩ := hP_11
                        rw [hP_11, hP_11b]
                        clear hP_11 hP_11b r9 u9
                        refine v_aload_n (pc := 246) C 2 rfl rfl dL_isSo_246 ?_
                        refine v_bipush (pc := 247) C rfl dL_isSo_247 ?_
                        refine al_14 (pc := 249) C ⟨by (first | assumption | omega | (unfold rg; omega)), by (first | assumption | omega | (unfold rg; omega))⟩ dL_isSo_249 (v 14 0 0 7) (rfl) ?_
                        refine v_icmp_ne (pc := 250) C 257 ⟨by (first | assumption | omega | (unfold rg; omega)), by (first | assumption | omega | (unfold rg; omega))⟩ ⟨by (first | assumption | omega | (unfold rg; omega)), by (first | assumption | omega | (unfold rg; omega))⟩ (by decide) dL_isSo_250 (fun h250 => ?_) (fun h250 => ?_)
                        · skip
                          exfalso; omega
                        · skip
                          refine v_iconst (pc := 253) C dL_isSo_253 ?_
                          refine v_goto (pc := 254) C 258 (by decide) dL_isSo_254 ?_
                          refine v_istore (pc := 258) C [(7, .int (iI 1)), (0, .ref (adr L 0 0 0)), (1, .int (iI x)), (2, .ref (adr L 14 0 0)), (3, .ref (adr L 15 0 0)), (4, .ref (adr L 16 0 0)), (5, .ref (adr L 17 0 0)), (6, .ref (adr L 18 0 0))] (by decide) rfl dL_isSo_258 ?_
                          refine v_lsub [1, 2, 3, 4, 5, 6, 7, 0] rfl ?_
                          exact vs_so2 C hr hlk hsum g v x hK hz hx hs
          · skip
            refine v_iconst (pc := 168) C dL_isSo_168 ?_
            refine v_goto (pc := 169) C 173 (by decide) dL_isSo_169 ?_
            refine v_icmp_ne (pc := 173) C 257 ⟨by (first | assumption | omega | (unfold rg; omega)), by (first | assumption | omega | (unfold rg; omega))⟩ ⟨by (first | assumption | omega | (unfold rg; omega)), by (first | assumption | omega | (unfold rg; omega))⟩ (by decide) dL_isSo_173 (fun h173 => ?_) (fun h173 => ?_)
            · skip
              exfalso; omega
            · skip
              refine v_aload_n (pc := 176) C 0 rfl rfl dL_isSo_176 ?_
              refine v_iconst (pc := 177) C dL_isSo_177 ?_
              refine v_calliH (pc := 178) C cwh_L_count (ct_L_count l L v 5 (by decide) (by exact hw)) ⟨Nat.le_of_ble_eq_true rfl, Nat.le_of_ble_eq_true rfl⟩ rfl (Nat.le_of_ble_eq_true rfl) ⟨Nat.le_of_ble_eq_true rfl, Nat.le_of_ble_eq_true rfl⟩ rfl dL_isSo_178 (fun r9 u9 hP_12 => ?_)
              obtain ⟨hP_12, hP_12b⟩ := hP_12
              rw [hP_12, hP_12b]
              clear hP_12 hP_12b r9 u9
              refine v_aload_n (pc := 181) C 2 rfl rfl dL_isSo_181 ?_
              refine v_bipush (pc := 182) C rfl dL_isSo_182 ?_
              refine al_14 (pc := 184) C ⟨by (first | assumption | omega | (unfold rg; omega)), by (first | assumption | omega | (unfold rg; omega))⟩ dL_isSo_184 (v 14 0 0 8) (rfl) ?_
              refine v_icmp_ne (pc := 185) C 257 ⟨by (first | assumption | omega | (unfold rg; omega)), by (first | assumption | omega | (unfold rg; omega))⟩ ⟨by (first | assumption | omega | (unfold rg; omega)), by (first | assumption | omega | (unfold rg; omega))⟩ (by decide) dL_isSo_185 (fun h185 => ?_) (fun h185 => ?_)
              · skip
                exfalso; omega
              · skip
                refine v_aload_n (pc := 188) C 0 rfl rfl dL_isSo_188 ?_
                refine v_bipush (pc := 189) C rfl dL_isSo_189 ?_
                refine v_calliH (pc := 191) C cwh_L_count (ct_L_count l L v 6 (by decide) (by exact hw)) ⟨Nat.le_of_ble_eq_true rfl, Nat.le_of_ble_eq_true rfl⟩ rfl (Nat.le_of_ble_eq_true rfl) ⟨Nat.le_of_ble_eq_true rfl, Nat.le_of_ble_eq_true rfl⟩ rfl dL_isSo_191 (fun r9 u9 hP_13 => ?_)
                obtain ⟨hP_13, hP_13b⟩ := hP_13
                rw [hP_13, hP_13b]
                clear hP_13 hP_13b r9 u9
                refine v_aload (pc := 194) C 6 rfl dL_isSo_194 ?_
                refine v_iconst (pc := 196) C dL_isSo_196 ?_
                refine al_18 (pc := 197) C hsum ⟨by (first | assumption | omega | (unfold rg; omega)), by (first | assumption | omega | (unfold rg; omega))⟩ dL_isSo_197 (v 18 0 0 3) (rfl) ?_
                refine v_icmp_ne (pc := 198) C 257 ⟨by (first | assumption | omega | (unfold rg; omega)), by (first | assumption | omega | (unfold rg; omega))⟩ ⟨by (first | assumption | omega | (unfold rg; omega)), by (first | assumption | omega | (unfold rg; omega))⟩ (by decide) dL_isSo_198 (fun h198 => ?_) (fun h198 => ?_)
                · skip
                  exfalso; omega
                · skip
                  refine v_aload_n (pc := 201) C 0 rfl rfl dL_isSo_201 ?_
                  refine v_bipush (pc := 202) C rfl dL_isSo_202 ?_
                  refine v_calliH (pc := 204) C cwh_L_count (ct_L_count l L v 7 (by decide) (by exact hw)) ⟨Nat.le_of_ble_eq_true rfl, Nat.le_of_ble_eq_true rfl⟩ rfl (Nat.le_of_ble_eq_true rfl) ⟨Nat.le_of_ble_eq_true rfl, Nat.le_of_ble_eq_true rfl⟩ rfl dL_isSo_204 (fun r9 u9 hP_14 => ?_)
                  obtain ⟨hP_14, hP_14b⟩ := hP_14
                  rw [hP_14, hP_14b]
                  clear hP_14 hP_14b r9 u9
                  refine v_aload (pc := 207) C 6 rfl dL_isSo_207 ?_
                  refine v_iconst (pc := 209) C dL_isSo_209 ?_
                  refine al_18 (pc := 210) C hsum ⟨by (first | assumption | omega | (unfold rg; omega)), by (first | assumption | omega | (unfold rg; omega))⟩ dL_isSo_210 (v 18 0 0 4) (rfl) ?_
                  refine v_icmp_ne (pc := 211) C 257 ⟨by (first | assumption | omega | (unfold rg; omega)), by (first | assumption | omega | (unfold rg; omega))⟩ ⟨by (first | assumption | omega | (unfold rg; omega)), by (first | assumption | omega | (unfold rg; omega))⟩ (by decide) dL_isSo_211 (fun h211 => ?_) (fun h211 => ?_)
                  · skip
                    exfalso; omega
                  · skip
                    refine v_aload_n (pc := 214) C 0 rfl rfl dL_isSo_214 ?_
                    refine v_bipush (pc := 215) C rfl dL_isSo_215 ?_
                    refine v_calliH (pc := 217) C cwh_L_count (ct_L_count l L v 8 (by decide) (by exact hw)) ⟨Nat.le_of_ble_eq_true rfl, Nat.le_of_ble_eq_true rfl⟩ rfl (Nat.le_of_ble_eq_true rfl) ⟨Nat.le_of_ble_eq_true rfl, Nat.le_of_ble_eq_true rfl⟩ rfl dL_isSo_217 (fun r9 u9 hP_15 => ?_)
                    obtain ⟨hP_15, hP_15b⟩ := hP_15
                    rw [hP_15, hP_15b]
                    clear hP_15 hP_15b r9 u9
                    refine v_aload (pc := 220) C 6 rfl dL_isSo_220 ?_
                    refine v_iconst (pc := 222) C dL_isSo_222 ?_
                    refine al_18 (pc := 223) C hsum ⟨by (first | assumption | omega | (unfold rg; omega)), by (first | assumption | omega | (unfold rg; omega))⟩ dL_isSo_223 (v 18 0 0 5) (rfl) ?_
                    refine v_icmp_ne (pc := 224) C 257 ⟨by (first | assumption | omega | (unfold rg; omega)), by (first | assumption | omega | (unfold rg; omega))⟩ ⟨by (first | assumption | omega | (unfold rg; omega)), by (first | assumption | omega | (unfold rg; omega))⟩ (by decide) dL_isSo_224 (fun h224 => ?_) (fun h224 => ?_)
                    · skip
                      exfalso; omega
                    · skip
                      refine v_aload_n (pc := 227) C 0 rfl rfl dL_isSo_227 ?_
                      refine v_bipush (pc := 228) C rfl dL_isSo_228 ?_
                      refine v_calliH (pc := 230) C cwh_L_count (ct_L_count l L v 9 (by decide) (by exact hw)) ⟨Nat.le_of_ble_eq_true rfl, Nat.le_of_ble_eq_true rfl⟩ rfl (Nat.le_of_ble_eq_true rfl) ⟨Nat.le_of_ble_eq_true rfl, Nat.le_of_ble_eq_true rfl⟩ rfl dL_isSo_230 (fun r9 u9 hP_16 => ?_)
                      obtain ⟨hP_16, hP_16b⟩ := hP_16
                      rw [hP_16, hP_16b]
                      clear hP_16 hP_16b r9 u9
                      refine v_aload (pc := 233) C 6 rfl dL_isSo_233 ?_
                      refine v_iconst (pc := 235) C dL_isSo_235 ?_
                      refine al_18 (pc := 236) C hsum ⟨by (first | assumption | omega | (unfold rg; omega)), by (first | assumption | omega | (unfold rg; omega))⟩ dL_isSo_236 (v 18 0 0 1) (rfl) ?_
                      refine v_icmp_ne (pc := 237) C 257 ⟨by (first | assumption | omega | (unfold rg; omega)), by (first | assumption | omega | (unfold rg; omega))⟩ ⟨by (first | assumption | omega | (unfold rg; omega)), by (first | assumption | omega | (unfold rg; omega))⟩ (by decide) dL_isSo_237 (fun h237 => ?_) (fun h237 => ?_)
                      · skip
                        exfalso; omega
                      · skip
                        refine v_aload_n (pc := 240) C 0 rfl rfl dL_isSo_240 ?_
                        refine v_bipush (pc := 241) C rfl dL_isSo_241 ?_
                        refine v_calliH (pc := 243) C cwh_L_count (ct_L_count l L v 10 (by decide) (by exact hw)) ⟨Nat.le_of_ble_eq_true rfl, Nat.le_of_ble_eq_true rfl⟩ rfl (Nat.le_of_ble_eq_true rfl) ⟨Nat.le_of_ble_eq_true rfl, Nat.le_of_ble_eq_true rfl⟩ rfl dL_isSo_243 (fun r9 u9 hP_17 => ?_)
                        obtain ⟨hP_17, hP_17b⟩ := hP_17
                        rw [hP_17, hP_17b]
                        clear hP_17 hP_17b r9 u9
                        refine v_aload_n (pc := 246) C 2 rfl rfl dL_isSo_246 ?_
                        refine v_bipush (pc := 247) C rfl dL_isSo_247 ?_
                        refine al_14 (pc := 249) C ⟨by (first | assumption | omega | (unfold rg; omega)), by (first | assumption | omega | (unfold rg; omega))⟩ dL_isSo_249 (v 14 0 0 7) (rfl) ?_
                        refine v_icmp_ne (pc := 250) C 257 ⟨by (first | assumption | omega | (unfold rg; omega)), by (first | assumption | omega | (unfold rg; omega))⟩ ⟨by (first | assumption | omega | (unfold rg; omega)), by (first | assumption | omega | (unfold rg; omega))⟩ (by decide) dL_isSo_250 (fun h250 => ?_) (fun h250 => ?_)
                        · skip
                          exfalso; omega
                        · skip
                          refine v_iconst (pc := 253) C dL_isSo_253 ?_
                          refine v_goto (pc := 254) C 258 (by decide) dL_isSo_254 ?_
                          refine v_istore (pc := 258) C [(7, .int (iI 1)), (0, .ref (adr L 0 0 0)), (1, .int (iI x)), (2, .ref (adr L 14 0 0)), (3, .ref (adr L 15 0 0)), (4, .ref (adr L 16 0 0)), (5, .ref (adr L 17 0 0)), (6, .ref (adr L 18 0 0))] (by decide) rfl dL_isSo_258 ?_
                          refine v_lsub [1, 2, 3, 4, 5, 6, 7, 0] rfl ?_
                          exact vs_so2 C hr hlk hsum g v x hK hz hx hs
set_option maxHeartbeats 4000000 in
set_option maxRecDepth 100000 in
theorem vs_so0 {pp : Program} {l : Launch} {ee : Env} {ss : State} {mm : MethodId} {args : Array Value} {bel : List Frame} {mth : Method} {cx : Code} {L : Lay} (C : Cx pp ss mm args cx cL_isSo 15 RL L) (hr : mth.sig.returnType = some .boolean) (hlk : mth.locks = false) (hsum : 0 < su L) (g v0 : St) (x : Int) (hK0 : K v0) (hz0 : zz g v0) (hx : rg x) (h18 : ∀ w, 0 ≤ w → w < 6 → v0 18 0 0 w = 0) : V pp l ee { frames := 11, cells := 1, slots := 6, locals := 340 } ss mm args bel mth cx 15 L (HH L v0) 1 6 (MQ bel (va_Qi (fun (r9 : Int32) (u : St) => ∃ z : Int, r9 = iI z ∧ (z = 1 ∧ zz g u)) (fun u t => HS L u t) (Af L)) args ss 1 6 (Af L)) 6 [(0, .ref (adr L 0 0 0)), (1, .int (iI x)), (2, .ref (adr L 14 0 0)), (3, .ref (adr L 15 0 0)), (4, .ref (adr L 16 0 0)), (5, .ref (adr L 17 0 0)), (6, .ref (adr L 18 0 0))] [] := by
  refine v_iconst (pc := 6) C dL_isSo_6 ?_
  refine v_istore (pc := 7) C [(7, .int (iI 0)), (0, .ref (adr L 0 0 0)), (1, .int (iI x)), (2, .ref (adr L 14 0 0)), (3, .ref (adr L 15 0 0)), (4, .ref (adr L 16 0 0)), (5, .ref (adr L 17 0 0)), (6, .ref (adr L 18 0 0))] (by decide) rfl dL_isSo_7 ?_
  have lb9 : ∀ (n9 : Nat) (v : St) (i : Int), (0 ≤ i ∧ i ≤ 4) → (K v) → (zz g v) → (∀ w, 0 ≤ w → w < 6 → v 18 0 0 w = smP g i.toNat w) → (4 - i).toNat < n9 → V pp l ee { frames := 11, cells := 1, slots := 6, locals := 340 } ss mm args bel mth cx 15 L (HH L v) 1 6 (MQ bel (va_Qi (fun (r9 : Int32) (u : St) => ∃ z : Int, r9 = iI z ∧ (z = 1 ∧ zz g u)) (fun u t => HS L u t) (Af L)) args ss 1 6 (Af L)) 9 [(0, .ref (adr L 0 0 0)), (1, .int (iI x)), (2, .ref (adr L 14 0 0)), (3, .ref (adr L 15 0 0)), (4, .ref (adr L 16 0 0)), (5, .ref (adr L 17 0 0)), (6, .ref (adr L 18 0 0)), (7, .int (iI i))] [] := by
    intro n9
    induction n9 with
    | zero => intro v i hi hK hz hs hm9; exact absurd hm9 (Nat.not_lt_zero _)
    | succ n9 ih9 =>
      intro v i hi hK hz hs hm9
      have hz15 := zz_f hz (f := 15) (by decide) (by decide)
      have ihL9 := ih9
      refine v_iload (pc := 9) C 7 rfl dL_isSo_9 ?_
      refine v_iconst (pc := 11) C dL_isSo_11 ?_
      refine v_icmp_ge (pc := 12) C 111 ⟨by (first | assumption | omega | (unfold rg; omega)), by (first | assumption | omega | (unfold rg; omega))⟩ ⟨by (first | assumption | omega | (unfold rg; omega)), by (first | assumption | omega | (unfold rg; omega))⟩ (by decide) dL_isSo_12 (fun h12 => ?_) (fun h12 => ?_)
      · skip
        refine v_lsub [0, 1, 2, 3, 4, 5, 6] rfl ?_
        exact vs_so1 C hr hlk hsum g v x hK hz hx (fun w a b => by rw [hs w a b, show i = 4 by omega, hz15]; exact smP_4 g w)
      · skip
        refine v_iconst (pc := 15) C dL_isSo_15 ?_
        refine v_istore (pc := 16) C [(8, .int (iI 0)), (0, .ref (adr L 0 0 0)), (1, .int (iI x)), (2, .ref (adr L 14 0 0)), (3, .ref (adr L 15 0 0)), (4, .ref (adr L 16 0 0)), (5, .ref (adr L 17 0 0)), (6, .ref (adr L 18 0 0)), (7, .int (iI i))] (by decide) rfl dL_isSo_16 ?_
        have lb18 : ∀ (n9 : Nat) (v2 : St) (j : Int), (0 ≤ j ∧ j ≤ 6) → (K v2) → (zz g v2) → (∀ w, 0 ≤ w → w < 6 → v2 18 0 0 w = (if w < j then smP g (i + 1).toNat w else smP g i.toNat w)) → (6 - j).toNat < n9 → V pp l ee { frames := 11, cells := 1, slots := 6, locals := 340 } ss mm args bel mth cx 15 L (HH L v2) 1 6 (MQ bel (va_Qi (fun (r9 : Int32) (u : St) => ∃ z : Int, r9 = iI z ∧ (z = 1 ∧ zz g u)) (fun u t => HS L u t) (Af L)) args ss 1 6 (Af L)) 18 [(0, .ref (adr L 0 0 0)), (1, .int (iI x)), (2, .ref (adr L 14 0 0)), (3, .ref (adr L 15 0 0)), (4, .ref (adr L 16 0 0)), (5, .ref (adr L 17 0 0)), (6, .ref (adr L 18 0 0)), (7, .int (iI i)), (8, .int (iI j))] [] := by
          intro n9
          induction n9 with
          | zero => intro v2 j hj hK2 hz2 hs2 hm9; exact absurd hm9 (Nat.not_lt_zero _)
          | succ n9 ih9 =>
            intro v2 j hj hK2 hz2 hs2 hm9
            have hy15 := zz_f hz2 (f := 15) (by decide) (by decide)
            have ihL18 := ih9
            refine v_iload (pc := 18) C 8 rfl dL_isSo_18 ?_
            refine v_bipush (pc := 20) C rfl dL_isSo_20 ?_
            refine v_icmp_ge (pc := 22) C 85 ⟨by (first | assumption | omega | (unfold rg; omega)), by (first | assumption | omega | (unfold rg; omega))⟩ ⟨by (first | assumption | omega | (unfold rg; omega)), by (first | assumption | omega | (unfold rg; omega))⟩ (by decide) dL_isSo_22 (fun h22 => ?_) (fun h22 => ?_)
            · skip
              have hlu := lUw_in v2 i
              have h9 := (wq_s hK2.1).2.2.2.2.2.2.1
              refine v_aload_n (pc := 85) C 0 rfl rfl dL_isSo_85 ?_
              refine v_iload (pc := 86) C 7 rfl dL_isSo_86 ?_
              refine v_iconst (pc := 88) C dL_isSo_88 ?_
              refine v_calliH (pc := 89) C cwh_L_playerOf (ct_L_playerOf l L v2 i 3 (by omega) (by decide) (by exact hK2.2.1)) ⟨Nat.le_of_ble_eq_true rfl, Nat.le_of_ble_eq_true rfl⟩ rfl (Nat.le_of_ble_eq_true rfl) ⟨Nat.le_of_ble_eq_true rfl, Nat.le_of_ble_eq_true rfl⟩ rfl dL_isSo_89 (fun r9 u9 hP_1 => ?_)
              obtain ⟨hP_1, hP_1b⟩ := hP_1
              rw [hP_1, hP_1b]
              clear hP_1 hP_1b r9 u9
              refine v_topi (b := lUw v2 i) C (k_pl3 hK2 i) ?_
              refine v_iload (pc := 92) C 7 rfl dL_isSo_92 ?_
              refine v_aload_n (pc := 94) C 2 rfl rfl dL_isSo_94 ?_
              refine v_aload (pc := 95) C 5 rfl dL_isSo_95 ?_
              refine v_calliS (pc := 97) C cw_RL_61 (ct_L_many l L v2 i (by exact wq_eR hK2.1 (by decide)) (by omega)) ⟨Nat.le_of_ble_eq_true rfl, Nat.le_of_ble_eq_true rfl⟩ rfl (Nat.le_of_ble_eq_true rfl) ⟨Nat.le_of_ble_eq_true rfl, Nat.le_of_ble_eq_true rfl⟩ rfl dL_isSo_97 (fun r9 u9 hP_2 => ?_)
              obtain ⟨hP_2, hP_2b⟩ := hP_2
              rw [hP_2, hP_2b]
              clear hP_2 hP_2b r9 u9
              refine v_icmp_eq (pc := 100) C 105 ⟨by (first | assumption | omega | (unfold rg; omega)), by (first | assumption | omega | (unfold rg; omega))⟩ ⟨by (first | assumption | omega | (unfold rg; omega)), by (first | assumption | omega | (unfold rg; omega))⟩ (by decide) dL_isSo_100 (fun h100 => ?_) (fun h100 => ?_)
              · skip
                refine v_iinc (pc := 105) C 7 [(7, .int (iI (i + 1))), (0, .ref (adr L 0 0 0)), (1, .int (iI x)), (2, .ref (adr L 14 0 0)), (3, .ref (adr L 15 0 0)), (4, .ref (adr L 16 0 0)), (5, .ref (adr L 17 0 0)), (6, .ref (adr L 18 0 0)), (8, .int (iI j))] rfl (by decide) rfl dL_isSo_105 ?_
                refine v_goto (pc := 108) C 9 (by decide) dL_isSo_108 ?_
                refine v_lsub [1, 2, 3, 4, 5, 6, 7, 0] rfl ?_
                exact ihL9 v2 (i + 1) (by omega) (by exact hK2) (by exact hz2) (by exact fun w a b => by rw [hs2 w a b, if_pos (by omega)]) (by omega)
              · skip
                exact absurd rfl h100
            · skip
              have hpv := hK2.1.2.2.1 (6 * i + j) (by omega) (by omega)
              refine v_aload (pc := 25) C 6 rfl dL_isSo_25 ?_
              refine v_iload (pc := 27) C 8 rfl dL_isSo_27 ?_
              refine v_dup2 (pc := 29) C rfl rfl dL_isSo_29 ?_
              refine al_18 (pc := 30) C hsum ⟨by (first | assumption | omega | (unfold rg; omega)), by (first | assumption | omega | (unfold rg; omega))⟩ dL_isSo_30 (v2 18 0 0 j) (rfl) ?_
              refine v_aload_n (pc := 31) C 3 rfl rfl dL_isSo_31 ?_
              refine v_bipush (pc := 32) C rfl dL_isSo_32 ?_
              refine v_iload (pc := 34) C 7 rfl dL_isSo_34 ?_
              refine v_imul (pc := 36) C dL_isSo_36 ?_
              refine v_iload (pc := 37) C 8 rfl dL_isSo_37 ?_
              refine v_iadd (pc := 39) C dL_isSo_39 ?_
              refine al_15 (pc := 40) C ⟨by (first | assumption | omega | (unfold rg; omega)), by (first | assumption | omega | (unfold rg; omega))⟩ dL_isSo_40 (v2 15 0 0 ((6 * i) + j)) (rfl) ?_
              refine v_iadd (pc := 41) C dL_isSo_41 ?_
              refine as_18 (pc := 42) C hsum ⟨by (first | assumption | omega | (unfold rg; omega)), by (first | assumption | omega | (unfold rg; omega))⟩ dL_isSo_42 ?_
              have hKu := K_z (zz_18 v2 j (v2 18 0 0 j + v2 15 0 0 (6 * i + j))) hK2
              refine v_aload_n (pc := 43) C 0 rfl rfl dL_isSo_43 ?_
              refine v_iload (pc := 44) C 7 rfl dL_isSo_44 ?_
              refine v_iload (pc := 46) C 8 rfl dL_isSo_46 ?_
              refine v_iconst (pc := 48) C dL_isSo_48 ?_
              refine v_icmp_ge (pc := 49) C 57 ⟨by (first | assumption | omega | (unfold rg; omega)), by (first | assumption | omega | (unfold rg; omega))⟩ ⟨by (first | assumption | omega | (unfold rg; omega)), by (first | assumption | omega | (unfold rg; omega))⟩ (by decide) dL_isSo_49 (fun h49 => ?_) (fun h49 => ?_)
              · skip
                refine v_iload (pc := 57) C 8 rfl dL_isSo_57 ?_
                refine v_iconst (pc := 59) C dL_isSo_59 ?_
                refine v_iadd (pc := 60) C dL_isSo_60 ?_
                refine v_calliH (pc := 61) C cwh_L_playerOf (ct_L_playerOf l L (up v2 18 0 0 j ((v2 18 0 0 j) + (v2 15 0 0 ((6 * i) + j)))) i (j + 1) (by omega) (by omega) (by exact hKu.2.1)) ⟨Nat.le_of_ble_eq_true rfl, Nat.le_of_ble_eq_true rfl⟩ rfl (Nat.le_of_ble_eq_true rfl) ⟨Nat.le_of_ble_eq_true rfl, Nat.le_of_ble_eq_true rfl⟩ rfl dL_isSo_61 (fun r9 u9 hP_3 => ?_)
                obtain ⟨hP_3, hP_3b⟩ := hP_3
                rw [hP_3, hP_3b]
                clear hP_3 hP_3b r9 u9
                refine v_topi (b := v2 15 0 0 (6 * i + j)) C ((by first | exact (k_pl hKu ⟨by omega, by omega⟩ ⟨by omega, by omega⟩).trans (up_f (by decide)) | exact (k_pl2 hKu ⟨by omega, by omega⟩ ⟨by omega, by omega⟩).trans (up_f (by decide)))) ?_
                refine v_aload_n (pc := 64) C 3 rfl rfl dL_isSo_64 ?_
                refine v_bipush (pc := 65) C rfl dL_isSo_65 ?_
                refine v_iload (pc := 67) C 7 rfl dL_isSo_67 ?_
                refine v_imul (pc := 69) C dL_isSo_69 ?_
                refine v_iload (pc := 70) C 8 rfl dL_isSo_70 ?_
                refine v_iadd (pc := 72) C dL_isSo_72 ?_
                refine al_15 (pc := 73) C ⟨by (first | assumption | omega | (unfold rg; omega)), by (first | assumption | omega | (unfold rg; omega))⟩ dL_isSo_73 (v2 15 0 0 ((6 * i) + j)) (by simp [up]) ?_
                refine v_icmp_eq (pc := 74) C 79 ⟨by (first | assumption | omega | (unfold rg; omega)), by (first | assumption | omega | (unfold rg; omega))⟩ ⟨by (first | assumption | omega | (unfold rg; omega)), by (first | assumption | omega | (unfold rg; omega))⟩ (by decide) dL_isSo_74 (fun h74 => ?_) (fun h74 => ?_)
                · skip
                  refine v_iinc (pc := 79) C 8 [(8, .int (iI (j + 1))), (0, .ref (adr L 0 0 0)), (1, .int (iI x)), (2, .ref (adr L 14 0 0)), (3, .ref (adr L 15 0 0)), (4, .ref (adr L 16 0 0)), (5, .ref (adr L 17 0 0)), (6, .ref (adr L 18 0 0)), (7, .int (iI i))] rfl (by decide) rfl dL_isSo_79 ?_
                  refine v_goto (pc := 82) C 18 (by decide) dL_isSo_82 ?_
                  refine v_lsub [1, 2, 3, 4, 5, 6, 7, 8, 0] rfl ?_
                  exact ihL18 (up v2 18 0 0 j ((v2 18 0 0 j) + (v2 15 0 0 ((6 * i) + j)))) (j + 1) (by omega) (by exact hKu) (by exact zz_tr hz2 (zz_18 _ _ _)) (by exact fun w a b => by (by_cases hwj : w = j; (subst hwj; rw [up_s, if_pos (by omega), hs2 w a b, if_neg (by omega), smP_s g hi.1, hy15]); (rw [up_i hwj, hs2 w a b]; by_cases hlt : w < j; (rw [if_pos hlt, if_pos (by omega)]); (rw [if_neg hlt, if_neg (by omega)])))) (by omega)
                · skip
                  exact absurd rfl h74
              · skip
                refine v_iload (pc := 52) C 8 rfl dL_isSo_52 ?_
                refine v_goto (pc := 54) C 61 (by decide) dL_isSo_54 ?_
                refine v_calliH (pc := 61) C cwh_L_playerOf (ct_L_playerOf l L (up v2 18 0 0 j ((v2 18 0 0 j) + (v2 15 0 0 ((6 * i) + j)))) i j (by omega) (by omega) (by exact hKu.2.1)) ⟨Nat.le_of_ble_eq_true rfl, Nat.le_of_ble_eq_true rfl⟩ rfl (Nat.le_of_ble_eq_true rfl) ⟨Nat.le_of_ble_eq_true rfl, Nat.le_of_ble_eq_true rfl⟩ rfl dL_isSo_61 (fun r9 u9 hP_4 => ?_)
                obtain ⟨hP_4, hP_4b⟩ := hP_4
                rw [hP_4, hP_4b]
                clear hP_4 hP_4b r9 u9
                refine v_topi (b := v2 15 0 0 (6 * i + j)) C ((by first | exact (k_pl hKu ⟨by omega, by omega⟩ ⟨by omega, by omega⟩).trans (up_f (by decide)) | exact (k_pl2 hKu ⟨by omega, by omega⟩ ⟨by omega, by omega⟩).trans (up_f (by decide)))) ?_
                refine v_aload_n (pc := 64) C 3 rfl rfl dL_isSo_64 ?_
                refine v_bipush (pc := 65) C rfl dL_isSo_65 ?_
                refine v_iload (pc := 67) C 7 rfl dL_isSo_67 ?_
                refine v_imul (pc := 69) C dL_isSo_69 ?_
                refine v_iload (pc := 70) C 8 rfl dL_isSo_70 ?_
                refine v_iadd (pc := 72) C dL_isSo_72 ?_
                refine al_15 (pc := 73) C ⟨by (first | assumption | omega | (unfold rg; omega)), by (first | assumption | omega | (unfold rg; omega))⟩ dL_isSo_73 (v2 15 0 0 ((6 * i) + j)) (by simp [up]) ?_
                refine v_icmp_eq (pc := 74) C 79 ⟨by (first | assumption | omega | (unfold rg; omega)), by (first | assumption | omega | (unfold rg; omega))⟩ ⟨by (first | assumption | omega | (unfold rg; omega)), by (first | assumption | omega | (unfold rg; omega))⟩ (by decide) dL_isSo_74 (fun h74 => ?_) (fun h74 => ?_)
                · skip
                  refine v_iinc (pc := 79) C 8 [(8, .int (iI (j + 1))), (0, .ref (adr L 0 0 0)), (1, .int (iI x)), (2, .ref (adr L 14 0 0)), (3, .ref (adr L 15 0 0)), (4, .ref (adr L 16 0 0)), (5, .ref (adr L 17 0 0)), (6, .ref (adr L 18 0 0)), (7, .int (iI i))] rfl (by decide) rfl dL_isSo_79 ?_
                  refine v_goto (pc := 82) C 18 (by decide) dL_isSo_82 ?_
                  refine v_lsub [1, 2, 3, 4, 5, 6, 7, 8, 0] rfl ?_
                  exact ihL18 (up v2 18 0 0 j ((v2 18 0 0 j) + (v2 15 0 0 ((6 * i) + j)))) (j + 1) (by omega) (by exact hKu) (by exact zz_tr hz2 (zz_18 _ _ _)) (by exact fun w a b => by (by_cases hwj : w = j; (subst hwj; rw [up_s, if_pos (by omega), hs2 w a b, if_neg (by omega), smP_s g hi.1, hy15]); (rw [up_i hwj, hs2 w a b]; by_cases hlt : w < j; (rw [if_pos hlt, if_pos (by omega)]); (rw [if_neg hlt, if_neg (by omega)])))) (by omega)
                · skip
                  exact absurd rfl h74
        refine v_lsub [1, 2, 3, 4, 5, 6, 7, 8, 0] rfl ?_
        exact lb18 _ v 0 (by omega) (by exact hK) (by exact hz) (by exact fun w a b => by rw [hs w a b, if_neg (by omega)]) (Nat.lt_succ_self _)
  refine v_lsub [1, 2, 3, 4, 5, 6, 7, 0] rfl ?_
  exact lb9 _ v0 0 (by omega) (by exact hK0) (by exact hz0) (by exact h18) (Nat.lt_succ_self _)
