/-! the law's loop -/
theorem J_z {g v : St} {N T : Int} (h : zz g v) (hJ : J g N T) : J v N T := by
  obtain ⟨j1, j2, j3, j4, j5, j6, j7, j8⟩ := hJ
  have e14 := zz_f h (f := 14) (by decide) (by decide)
  have e15 := zz_f h (f := 15) (by decide) (by decide)
  refine ⟨⟨?_, fun k a b => ck_fk (fun f x y => h f k (by omega) (by omega)) (j1.2 k a b)⟩, ?_, by rw [e14]; exact j3, by rw [e15]; exact j4, by rw [e14]; exact j5, by rw [e14]; exact j6, ?_, by rw [e14]; exact j8⟩
  · unfold wh; rw [zz_f h (f := 8) (by decide) (by decide), zz_f h (f := 9) (by decide) (by decide)]; exact j1.1
  · rw [zz_em h]; exact tieS_same (same_fk (fun f x y => h f 0 (by omega) (by omega))) j2
  · unfold cons plF at j7 ⊢; rw [e14, e15]; exact j7
section VL
variable {p : Program} {l : Launch} {e : Env} {R : Room} {s : State} {m : MethodId} {args : Array Value} {below : List Frame} {meth : Method} {c : Code} {cells slots : Nat} {Q : State → Prop} {cc : ByteArray} {nL : Nat} {own : String} {L : Lay} {g : St} {pc : Nat} {lv : List (Nat × Value)} {st : List Value}
theorem v_lcmpE (C : Cx p s m args c cc nL own L) {x : Int64} (hdg : decode cc pc = .ok (.lcmp, 1)) (kk : V p l e R s m args below meth c nL L (HH L g) cells slots Q (pc + 1) lv (.int (iI 0) :: st)) : V p l e R s m args below meth c nL L (HH L g) cells slots Q pc lv (.long x :: .long x :: st) := by
  intro H locs ls hI hS hl
  have e1 : lg_cmp x x = iI 0 := by simp [lg_cmp]; rfl
  exact W.lcmp C.1 C.2.1 hdg (by rw [e1]; exact kk H locs ls hI hS hl)
end VL

theorem cwh_L_undo : CWh RL 157 yL_undo cL_undo 2 (some .int) [(0, 4, 5, 26)] 1 := ⟨u_15_21, u_15_22, u_3_22, u_15_23, by decide +kernel⟩
theorem cw_RL_149 : CWs RL 149 yL_told cL_told 5 (some .long) 1 := ⟨u_6_10, u_6_11, u_3_22, u_6_12, by decide +kernel⟩
theorem cw_RL_153 : CWs RL 153 yL_does cL_does 4 (some .int) 4 := ⟨u_10_3, u_10_4, u_3_22, u_10_5, by decide +kernel⟩
theorem cw_RL_160 : CWs RL 160 yL_due cL_due 11 (some .int) 7 := ⟨u_16_8, u_16_9, u_3_22, u_16_10, by decide +kernel⟩
theorem cw_RL_164 : CWs RL 164 yL_isSo cL_isSo 15 (some .boolean) 6 := ⟨u_17_11, u_17_12, u_3_22, u_17_13, by decide +kernel⟩
set_option maxHeartbeats 4000000 in
set_option maxRecDepth 100000 in
theorem vs_lC {p : Program} {l : Launch} {e : Env} {s : State} {m : MethodId} {args : Array Value} {below : List Frame} {meth : Method} {c : Code} {L : Lay} {Q : State → Prop} {cs ss cE sE : Nat} (hfl : l.flags = flags0) (C : Cx p s m args c cL_law 16 RL L) (h0 : su L = 0) (hcE : cE ≤ 714495) (hsE : sE ≤ 6957984) (g w : St) (b : Nat) (N T y k a b5 z : Int) (hT : 0 ≤ T ∧ T < 40) (hry : rg y) (hN : N ≤ 200 * T + 60) (hJ : J g N T) (hl : lwH g k a b5) (hd : doR5 g w k a b5 z) (hE : cs + 1 ≤ cE ∧ ss + 6 ≤ sE) (kend : ∀ v : St, J v (200 * (T + 1)) (T + 1) → V p l e room_1 s m args below meth c 16 L (HH L v) cE sE Q 571 [(0, .ref b), (1, .ref (adr L 0 0 0)), (2, .ref (adr L 14 0 0)), (3, .ref (adr L 15 0 0)), (4, .ref (adr L 16 0 0)), (5, .ref (adr L 17 0 0)), (6, .int (iI T))] []) : V p l e room_1 s m args below meth c 16 L (HH L w) cs ss Q 532 [(0, .ref b), (1, .ref (adr L 0 0 0)), (2, .ref (adr L 14 0 0)), (3, .ref (adr L 15 0 0)), (4, .ref (adr L 16 0 0)), (5, .ref (adr L 17 0 0)), (6, .int (iI T)), (8, .int (iI y)), (9, .int (iI k)), (10, .int (iI a)), (11, .int (iI b5)), (15, .int (iI z))] [] := by
  have hp := does_post hJ ⟨hT.1, by omega⟩ hl hd
  have hz : -103 ≤ z ∧ z ≤ 200000 := by rcases hp.2.2 with ⟨h, -⟩ | ⟨h, -⟩ <;> omega
  have hdu := J_duH hJ ⟨hT.1, by omega⟩ hl (fun f a b => hp.1 f (by omega))
  have hk4 : 0 ≤ k ∧ k ≤ 4 := by unfold lwH at hl; omega
  refine v_iload (pc := 532) C 11 rfl dL_law_532 ?_
  refine v_iload (pc := 534) C 8 rfl dL_law_534 ?_
  refine v_iload (pc := 536) C 9 rfl dL_law_536 ?_
  refine v_iload (pc := 538) C 10 rfl dL_law_538 ?_
  refine v_aload_n (pc := 540) C 2 rfl rfl dL_law_540 ?_
  refine v_aload_n (pc := 541) C 3 rfl rfl dL_law_541 ?_
  refine v_aload (pc := 542) C 4 rfl dL_law_542 ?_
  refine v_aload (pc := 544) C 5 rfl dL_law_544 ?_
  refine v_calliS (pc := 546) C cw_RL_160 (ct_L_due l L w k a b5 (by exact hk4) (by exact hdu.1) (by exact hdu.2)) ⟨Nat.le_of_ble_eq_true rfl, Nat.le_of_ble_eq_true rfl⟩ rfl (Nat.le_of_ble_eq_true rfl) ⟨by show _ ≤ 714495; omega, by show _ ≤ 6957984; omega⟩ rfl dL_law_546 (fun r9 v hP_1 => ?_)
  obtain ⟨y5, rfl, hP_1⟩ := hP_1
  obtain ⟨hyz, hJv⟩ := J_step hJ ⟨hT.1, by omega⟩ hl hd hP_1
  refine v_icmp_ne (pc := 549) C 569 ⟨by (first | assumption | omega | (unfold rg; omega)), by (first | assumption | omega | (unfold rg; omega))⟩ ⟨by (first | assumption | omega | (unfold rg; omega)), by (first | assumption | omega | (unfold rg; omega))⟩ (by decide) dL_law_549 (fun h549 => ?_) (fun h549 => ?_)
  · skip
    exact absurd hyz.symm h549
  · skip
    refine v_aload_n (pc := 552) C 1 rfl rfl dL_law_552 ?_
    refine v_iload (pc := 553) C 7 rfl dL_law_553 ?_
    refine v_iconst (pc := 555) C dL_law_555 ?_
    refine v_ishrz (pc := 556) C dL_law_556 (fun zs_3 hzs_3 => ?_)
    refine v_aload_n (pc := 557) C 2 rfl rfl dL_law_557 ?_
    refine v_aload_n (pc := 558) C 3 rfl rfl dL_law_558 ?_
    refine v_aload (pc := 559) C 4 rfl dL_law_559 ?_
    refine v_aload (pc := 561) C 5 rfl dL_law_561 ?_
    refine v_calliS (pc := 563) C cw_RL_164 (ct_L_isSo l L h0 v zs_3 (by exact J_K hJv ⟨by omega, by omega⟩ (by omega)) (by assumption)) ⟨Nat.le_of_ble_eq_true rfl, Nat.le_of_ble_eq_true rfl⟩ rfl (Nat.le_of_ble_eq_true rfl) ⟨by show _ ≤ 714495; omega, by show _ ≤ 6957984; omega⟩ rfl dL_law_563 (fun r9 v3 hP_4 => ?_)
    obtain ⟨o5, rfl, hP_4⟩ := hP_4
    have hone := hP_4.1
    have hzz := hP_4.2
    refine v_topi (b := 1) C (hone) ?_
    refine v_if_ne (pc := 566) C 571 ⟨by (first | assumption | omega | (unfold rg; omega)), by (first | assumption | omega | (unfold rg; omega))⟩ (by decide) dL_law_566 (fun h566 => ?_) (fun h566 => ?_)
    · skip
      refine v_widen (k := cE) (n := sE) (by omega) (by omega) ?_
      refine v_lsub [0, 1, 2, 3, 4, 5, 6] rfl ?_
      exact kend _ (J_mono (by omega) (J_z hzz hJv))
    · skip
      exfalso; omega
set_option maxHeartbeats 4000000 in
set_option maxRecDepth 100000 in
theorem vs_lB {p : Program} {l : Launch} {e : Env} {s : State} {m : MethodId} {args : Array Value} {below : List Frame} {meth : Method} {c : Code} {L : Lay} {Q : State → Prop} {cs ss cE sE : Nat} (hfl : l.flags = flags0) (C : Cx p s m args c cL_law 16 RL L) (h0 : su L = 0) (hcE : cE ≤ 714495) (hsE : sE ≤ 6957984) (g : St) (b : Nat) (T x y k a b5 : Int) (hT : 0 ≤ T ∧ T < 40) (hrx : rg x) (hry : rg y) (hJ : J g (200 * T) T) (hl : lwH g k a b5) (hE : cs + 3 ≤ cE ∧ ss + 18 ≤ sE) (kend : ∀ v : St, J v (200 * (T + 1)) (T + 1) → V p l e room_1 s m args below meth c 16 L (HH L v) cE sE Q 571 [(0, .ref b), (1, .ref (adr L 0 0 0)), (2, .ref (adr L 14 0 0)), (3, .ref (adr L 15 0 0)), (4, .ref (adr L 16 0 0)), (5, .ref (adr L 17 0 0)), (6, .int (iI T))] []) : V p l e room_1 s m args below meth c 16 L (HH L g) cs ss Q 450 [(0, .ref b), (1, .ref (adr L 0 0 0)), (2, .ref (adr L 14 0 0)), (3, .ref (adr L 15 0 0)), (4, .ref (adr L 16 0 0)), (5, .ref (adr L 17 0 0)), (6, .int (iI T)), (7, .int (iI x)), (8, .int (iI y)), (9, .int (iI k)), (10, .int (iI a)), (11, .int (iI b5))] [] := by
  have hT2 : 0 ≤ T ∧ T ≤ 40 := ⟨hT.1, by omega⟩
  have hK := J_K hJ ⟨by omega, by omega⟩ (by omega)
  have hDH := J_doH hJ hT2 hl
  have hk4 : 0 ≤ k ∧ k ≤ 4 := by unfold lwH at hl; omega
  refine v_aload_n (pc := 450) C 1 rfl rfl dL_law_450 ?_
  refine v_calllS (pc := 451) C cw_RL_149 (ct_L_told l L g (by exact hK.2.1) (by exact hK.2.2.1) (by exact hK.2.2.2.2.2.1) (by exact hK.2.2.2.2.2.2)) ⟨Nat.le_of_ble_eq_true rfl, Nat.le_of_ble_eq_true rfl⟩ rfl (Nat.le_of_ble_eq_true rfl) ⟨by show _ ≤ 714495; omega, by show _ ≤ 6957984; omega⟩ rfl dL_law_451 (fun r9 u9 hP_1 => ?_)
  obtain ⟨hP_1, hP_1b⟩ := hP_1
  rw [hP_1, hP_1b]
  clear hP_1 hP_1b r9 u9
  refine v_lstore (pc := 454) C [(13, .long (lI (tdN g))), (0, .ref b), (1, .ref (adr L 0 0 0)), (2, .ref (adr L 14 0 0)), (3, .ref (adr L 15 0 0)), (4, .ref (adr L 16 0 0)), (5, .ref (adr L 17 0 0)), (6, .int (iI T)), (7, .int (iI x)), (8, .int (iI y)), (9, .int (iI k)), (10, .int (iI a)), (11, .int (iI b5))] (by decide) rfl dL_law_454 ?_
  refine v_aload_n (pc := 456) C 2 rfl rfl dL_law_456 ?_
  refine v_iload (pc := 457) C 10 rfl dL_law_457 ?_
  refine v_iload (pc := 459) C 11 rfl dL_law_459 ?_
  refine v_iload (pc := 461) C 12 rfl dL_law_461 ?_
  refine v_calliS (pc := 463) C cw_RL_153 (ct_L_does l L hfl g k a b5 (by exact hk4) (by exact hDH) (by exact hJ.1.1) (by exact IC_wA hJ.1) (by exact c6_room (IC_wf hJ.1) (IC_c6 hJ.1))) ⟨Nat.le_of_ble_eq_true rfl, Nat.le_of_ble_eq_true rfl⟩ rfl (Nat.le_of_ble_eq_true rfl) ⟨by show _ ≤ 714495; omega, by show _ ≤ 6957984; omega⟩ rfl dL_law_463 (fun r9 u hP_2 => ?_)
  obtain ⟨z, rfl, hP_2⟩ := hP_2
  have hd : doR5 g u k a b5 z := hP_2
  obtain ⟨p1, p2, p3⟩ := does_post hJ hT2 hl hd
  have hz : -103 ≤ z ∧ z ≤ 200000 := by rcases p3 with ⟨h, -⟩ | ⟨h, -⟩ <;> omega
  refine v_istore (pc := 466) C [(15, .int (iI z)), (13, .long (lI (tdN g))), (0, .ref b), (1, .ref (adr L 0 0 0)), (2, .ref (adr L 14 0 0)), (3, .ref (adr L 15 0 0)), (4, .ref (adr L 16 0 0)), (5, .ref (adr L 17 0 0)), (6, .int (iI T)), (7, .int (iI x)), (8, .int (iI y)), (9, .int (iI k)), (10, .int (iI a)), (11, .int (iI b5))] (by decide) rfl dL_law_466 ?_
  refine v_iload (pc := 468) C 0 rfl dL_law_468 ?_
  refine v_bipush (pc := 470) C rfl dL_law_470 ?_
  refine v_icmp_ge (pc := 472) C 488 ⟨by (first | assumption | omega | (unfold rg; omega)), by (first | assumption | omega | (unfold rg; omega))⟩ ⟨by (first | assumption | omega | (unfold rg; omega)), by (first | assumption | omega | (unfold rg; omega))⟩ (by decide) dL_law_472 (fun h472 => ?_) (fun h472 => ?_)
  · skip
    refine v_iload (pc := 488) C 9 rfl dL_law_488 ?_
    refine v_bipush (pc := 490) C rfl dL_law_490 ?_
    refine v_ishrz (pc := 492) C dL_law_492 (fun zs_4 hzs_4 => ?_)
    refine v_iconst (pc := 493) C dL_law_493 ?_
    refine v_iandz (pc := 494) C dL_law_494 ?_
    refine v_if_ne (pc := 495) C 532 (iI_rg _) (by decide) dL_law_495 (fun h495 => ?_) (fun h495 => ?_)
    · skip
      refine v_lsub [2, 3, 4, 5, 6, 7, 8, 10, 11, 12, 13, 0] rfl ?_
      exact vs_lC hfl C h0 hcE hsE g u b (200 * T) T y k a b5 z hT hry (by omega) hJ hl hd ⟨by omega, by omega⟩ kend
    · skip
      have hun := J_un hJ hT2 hl hd (by omega)
      have hKu := J_K hun.1 ⟨by omega, by omega⟩ (by omega)
      have hl2 : lwH (rsG u 0) k a b5 := by (unfold lwH at hl ⊢; rw [hun.2.1 14 (by decide)]; exact hl)
      have h86 := p2.1.1
      refine v_aload_n (pc := 498) C 3 rfl rfl dL_law_498 ?_
      refine v_calliH (pc := 499) C cwh_L_undo (ct_L_undo l L u (by exact p2.1) (by exact IC_wA p2) (by exact hun.2.2)) ⟨Nat.le_of_ble_eq_true rfl, Nat.le_of_ble_eq_true rfl⟩ rfl (Nat.le_of_ble_eq_true rfl) ⟨by show _ ≤ 714495; omega, by show _ ≤ 6957984; omega⟩ rfl dL_law_499 (fun r9 u9 hP_5 => ?_)
      obtain ⟨hP_5, hP_5b⟩ := hP_5
      rw [hP_5, hP_5b]
      clear hP_5 hP_5b r9 u9
      refine v_if_lt (pc := 502) C 530 ⟨by (first | assumption | omega | (unfold rg; omega)), by (first | assumption | omega | (unfold rg; omega))⟩ (by decide) dL_law_502 (fun h502 => ?_) (fun h502 => ?_)
      · skip
        exfalso; have := hun.2.2; omega
      · skip
        refine v_aload_n (pc := 505) C 3 rfl rfl dL_law_505 ?_
        refine v_calllS (pc := 506) C cw_RL_149 (ct_L_told l L (rsG u 0) (by exact hKu.2.1) (by exact hKu.2.2.1) (by exact hKu.2.2.2.2.2.1) (by exact hKu.2.2.2.2.2.2)) ⟨Nat.le_of_ble_eq_true rfl, Nat.le_of_ble_eq_true rfl⟩ rfl (Nat.le_of_ble_eq_true rfl) ⟨by show _ ≤ 714495; omega, by show _ ≤ 6957984; omega⟩ rfl dL_law_506 (fun r9 u9 hP_6 => ?_)
        obtain ⟨hP_6, hP_6b⟩ := hP_6
        rw [hP_6, hP_6b]
        clear hP_6 hP_6b r9 u9
        refine v_topl (b := tdN g) C (td_eq hK hKu (fun f a b => hun.2.1 f (by omega))) ?_
        refine v_lload (pc := 509) C 1 rfl dL_law_509 ?_
        refine v_lcmpE (pc := 511) C dL_law_511 ?_
        refine v_if_ne (pc := 512) C 530 ⟨by (first | assumption | omega | (unfold rg; omega)), by (first | assumption | omega | (unfold rg; omega))⟩ (by decide) dL_law_512 (fun h512 => ?_) (fun h512 => ?_)
        · skip
          exfalso; omega
        · skip
          refine v_aload_n (pc := 515) C 3 rfl rfl dL_law_515 ?_
          refine v_iload (pc := 516) C 11 rfl dL_law_516 ?_
          refine v_iload (pc := 518) C 12 rfl dL_law_518 ?_
          refine v_iload (pc := 520) C 13 rfl dL_law_520 ?_
          refine v_calliS (pc := 522) C cw_RL_153 (ct_L_does l L hfl (rsG u 0) k a b5 (by exact hk4) (by exact J_doH hun.1 hT2 hl2) (by exact hun.1.1.1) (by exact IC_wA hun.1.1) (by exact c6_room (IC_wf hun.1.1) (IC_c6 hun.1.1))) ⟨Nat.le_of_ble_eq_true rfl, Nat.le_of_ble_eq_true rfl⟩ rfl (Nat.le_of_ble_eq_true rfl) ⟨by show _ ≤ 714495; omega, by show _ ≤ 6957984; omega⟩ rfl dL_law_522 (fun r9 u2 hP_7 => ?_)
          obtain ⟨z2, rfl, hP_7⟩ := hP_7
          have hzz : z2 = z := does_Z hJ hun.1 hT2 hl (fun f a b => hun.2.1 f (by omega)) hd hP_7
          have hd2 : doR5 (rsG u 0) u2 k a b5 z := hzz ▸ hP_7
          refine v_iload (pc := 525) C 0 rfl dL_law_525 ?_
          refine v_icmp_eq (pc := 527) C 532 ⟨by (first | assumption | omega | (unfold rg; omega)), by (first | assumption | omega | (unfold rg; omega))⟩ ⟨by (first | assumption | omega | (unfold rg; omega)), by (first | assumption | omega | (unfold rg; omega))⟩ (by decide) dL_law_527 (fun h527 => ?_) (fun h527 => ?_)
          · skip
            refine v_lsub [2, 3, 4, 5, 6, 7, 8, 10, 11, 12, 13, 0] rfl ?_
            exact vs_lC hfl C h0 hcE hsE (rsG u 0) u2 b (200 * T + 60) T y k a b5 z hT hry (by omega) hun.1 hl2 hd2 ⟨by omega, by omega⟩ kend
          · skip
            exact absurd hzz h527
  · skip
    have hug : u = g := by (rcases p3 with ⟨-, h⟩ | ⟨h, -⟩; exact h; omega)
    have hdg : doR5 g g k a b5 z := by (rw [hug] at hd; exact hd)
    refine v_st (g2 := g) C (hug) ?_
    refine v_aload_n (pc := 475) C 3 rfl rfl dL_law_475 ?_
    refine v_calllS (pc := 476) C cw_RL_149 (ct_L_told l L g (by exact hK.2.1) (by exact hK.2.2.1) (by exact hK.2.2.2.2.2.1) (by exact hK.2.2.2.2.2.2)) ⟨Nat.le_of_ble_eq_true rfl, Nat.le_of_ble_eq_true rfl⟩ rfl (Nat.le_of_ble_eq_true rfl) ⟨by show _ ≤ 714495; omega, by show _ ≤ 6957984; omega⟩ rfl dL_law_476 (fun r9 u9 hP_9 => ?_)
    obtain ⟨hP_9, hP_9b⟩ := hP_9
    rw [hP_9, hP_9b]
    clear hP_9 hP_9b r9 u9
    refine v_lload (pc := 479) C 1 rfl dL_law_479 ?_
    refine v_lcmpE (pc := 481) C dL_law_481 ?_
    refine v_if_eq (pc := 482) C 532 ⟨by (first | assumption | omega | (unfold rg; omega)), by (first | assumption | omega | (unfold rg; omega))⟩ (by decide) dL_law_482 (fun h482 => ?_) (fun h482 => ?_)
    · skip
      refine v_lsub [2, 3, 4, 5, 6, 7, 8, 10, 11, 12, 13, 0] rfl ?_
      exact vs_lC hfl C h0 hcE hsE g g b (200 * T) T y k a b5 z hT hry (by omega) hJ hl hdg ⟨by omega, by omega⟩ kend
    · skip
      exfalso; omega
set_option maxHeartbeats 4000000 in
set_option maxRecDepth 100000 in
theorem vs_lA {p : Program} {l : Launch} {e : Env} {s : State} {m : MethodId} {args : Array Value} {below : List Frame} {meth : Method} {c : Code} {L : Lay} {Q : State → Prop} {cs ss cE sE : Nat} (hfl : l.flags = flags0) (C : Cx p s m args c cL_law 16 RL L) (h0 : su L = 0) (hcE : cE ≤ 714495) (hsE : sE ≤ 6957984) (g : St) (b : Nat) (T x y : Int) (hT : 0 ≤ T ∧ T < 40) (hrx : rg x) (hry : rg y) (hJ : J g (200 * T) T) (hE : cs + 3 ≤ cE ∧ ss + 18 ≤ sE) (kend : ∀ v : St, J v (200 * (T + 1)) (T + 1) → V p l e room_1 s m args below meth c 16 L (HH L v) cE sE Q 571 [(0, .ref b), (1, .ref (adr L 0 0 0)), (2, .ref (adr L 14 0 0)), (3, .ref (adr L 15 0 0)), (4, .ref (adr L 16 0 0)), (5, .ref (adr L 17 0 0)), (6, .int (iI T))] []) : V p l e room_1 s m args below meth c 16 L (HH L g) cs ss Q 112 [(0, .ref b), (1, .ref (adr L 0 0 0)), (2, .ref (adr L 14 0 0)), (3, .ref (adr L 15 0 0)), (4, .ref (adr L 16 0 0)), (5, .ref (adr L 17 0 0)), (6, .int (iI T)), (7, .int (iI x)), (8, .int (iI y))] [] := by
  have hK := J_K hJ ⟨by omega, by omega⟩ (by omega)
  have qS0 := (wq_s hK.1).1
  refine v_iload (pc := 112) C 7 rfl dL_law_112 ?_
  refine v_bipush (pc := 114) C rfl dL_law_114 ?_
  refine v_calliS (pc := 116) C cw_RL_101 (ct_L_low l L g x 16 (by first | assumption | omega | (unfold rg; omega)) (by first | assumption | omega | (unfold rg; omega))) ⟨Nat.le_of_ble_eq_true rfl, Nat.le_of_ble_eq_true rfl⟩ rfl (Nat.le_of_ble_eq_true rfl) ⟨by show _ ≤ 714495; omega, by show _ ≤ 6957984; omega⟩ rfl dL_law_116 (fun r9 u9 hP_1 => ?_)
  have hlw116 := lw_in x (n := 16) (by omega)
  obtain ⟨hP_1, hP_1b⟩ := hP_1
  rw [hP_1, hP_1b]
  clear hP_1 hP_1b r9 u9
  refine v_istore (pc := 119) C [(9, .int (iI (lw x 16))), (0, .ref b), (1, .ref (adr L 0 0 0)), (2, .ref (adr L 14 0 0)), (3, .ref (adr L 15 0 0)), (4, .ref (adr L 16 0 0)), (5, .ref (adr L 17 0 0)), (6, .int (iI T)), (7, .int (iI x)), (8, .int (iI y))] (by decide) rfl dL_law_119 ?_
  refine v_iload (pc := 121) C 0 rfl dL_law_121 ?_
  refine v_bipush (pc := 123) C rfl dL_law_123 ?_
  refine v_icmp_ge (pc := 125) C 132 ⟨by (first | assumption | omega | (unfold rg; omega)), by (first | assumption | omega | (unfold rg; omega))⟩ ⟨by (first | assumption | omega | (unfold rg; omega)), by (first | assumption | omega | (unfold rg; omega))⟩ (by decide) dL_law_125 (fun h125 => ?_) (fun h125 => ?_)
  · skip
    refine v_iload (pc := 132) C 0 rfl dL_law_132 ?_
    refine v_bipush (pc := 134) C rfl dL_law_134 ?_
    refine v_icmp_ge (pc := 136) C 143 ⟨by (first | assumption | omega | (unfold rg; omega)), by (first | assumption | omega | (unfold rg; omega))⟩ ⟨by (first | assumption | omega | (unfold rg; omega)), by (first | assumption | omega | (unfold rg; omega))⟩ (by decide) dL_law_136 (fun h136 => ?_) (fun h136 => ?_)
    · skip
      refine v_iload (pc := 143) C 0 rfl dL_law_143 ?_
      refine v_bipush (pc := 145) C rfl dL_law_145 ?_
      refine v_icmp_ne (pc := 147) C 154 ⟨by (first | assumption | omega | (unfold rg; omega)), by (first | assumption | omega | (unfold rg; omega))⟩ ⟨by (first | assumption | omega | (unfold rg; omega)), by (first | assumption | omega | (unfold rg; omega))⟩ (by decide) dL_law_147 (fun h147 => ?_) (fun h147 => ?_)
      · skip
        refine v_iload (pc := 154) C 0 rfl dL_law_154 ?_
        refine v_bipush (pc := 156) C rfl dL_law_156 ?_
        refine v_icmp_ne (pc := 158) C 165 ⟨by (first | assumption | omega | (unfold rg; omega)), by (first | assumption | omega | (unfold rg; omega))⟩ ⟨by (first | assumption | omega | (unfold rg; omega)), by (first | assumption | omega | (unfold rg; omega))⟩ (by decide) dL_law_158 (fun h158 => ?_) (fun h158 => ?_)
        · skip
          refine v_iconst (pc := 165) C dL_law_165 ?_
          refine v_istore (pc := 166) C [(9, .int (iI 4)), (0, .ref b), (1, .ref (adr L 0 0 0)), (2, .ref (adr L 14 0 0)), (3, .ref (adr L 15 0 0)), (4, .ref (adr L 16 0 0)), (5, .ref (adr L 17 0 0)), (6, .int (iI T)), (7, .int (iI x)), (8, .int (iI y))] (by decide) rfl dL_law_166 ?_
          refine v_iload (pc := 168) C 0 rfl dL_law_168 ?_
          refine v_iconst (pc := 170) C dL_law_170 ?_
          refine v_icmp_ge (pc := 171) C 183 ⟨by (first | assumption | omega | (unfold rg; omega)), by (first | assumption | omega | (unfold rg; omega))⟩ ⟨by (first | assumption | omega | (unfold rg; omega)), by (first | assumption | omega | (unfold rg; omega))⟩ (by decide) dL_law_171 (fun h171 => ?_) (fun h171 => ?_)
          · skip
            refine v_iload (pc := 183) C 0 rfl dL_law_183 ?_
            refine v_iconst (pc := 185) C dL_law_185 ?_
            refine v_icmp_ne (pc := 186) C 202 ⟨by (first | assumption | omega | (unfold rg; omega)), by (first | assumption | omega | (unfold rg; omega))⟩ ⟨by (first | assumption | omega | (unfold rg; omega)), by (first | assumption | omega | (unfold rg; omega))⟩ (by decide) dL_law_186 (fun h186 => ?_) (fun h186 => ?_)
            · skip
              refine v_iload (pc := 202) C 0 rfl dL_law_202 ?_
              refine v_iconst (pc := 204) C dL_law_204 ?_
              refine v_icmp_ne (pc := 205) C 217 ⟨by (first | assumption | omega | (unfold rg; omega)), by (first | assumption | omega | (unfold rg; omega))⟩ ⟨by (first | assumption | omega | (unfold rg; omega)), by (first | assumption | omega | (unfold rg; omega))⟩ (by decide) dL_law_205 (fun h205 => ?_) (fun h205 => ?_)
              · skip
                refine v_iconst (pc := 217) C dL_law_217 ?_
                refine v_iload (pc := 218) C 9 rfl dL_law_218 ?_
                refine v_iload (pc := 220) C 9 rfl dL_law_220 ?_
                refine v_bipush (pc := 222) C rfl dL_law_222 ?_
                refine v_ishrz (pc := 224) C dL_law_224 (fun zs_2 hzs_2 => ?_)
                refine v_iconst (pc := 225) C dL_law_225 ?_
                refine v_calliS (pc := 226) C cw_RL_101 (ct_L_low l L g zs_2 4 (by first | assumption | omega | (unfold rg; omega)) (by first | assumption | omega | (unfold rg; omega))) ⟨Nat.le_of_ble_eq_true rfl, Nat.le_of_ble_eq_true rfl⟩ rfl (Nat.le_of_ble_eq_true rfl) ⟨by show _ ≤ 714495; omega, by show _ ≤ 6957984; omega⟩ rfl dL_law_226 (fun r9 u9 hP_3 => ?_)
                have hlw226 := lw_in zs_2 (n := 4) (by omega)
                obtain ⟨hP_3, hP_3b⟩ := hP_3
                rw [hP_3, hP_3b]
                clear hP_3 hP_3b r9 u9
                refine v_if_ne (pc := 229) C 237 ⟨by (first | assumption | omega | (unfold rg; omega)), by (first | assumption | omega | (unfold rg; omega))⟩ (by decide) dL_law_229 (fun h229 => ?_) (fun h229 => ?_)
                · skip
                  refine v_bipush (pc := 237) C rfl dL_law_237 ?_
                  refine v_calliS (pc := 239) C cw_RL_101 (ct_L_low l L g y 6 (by first | assumption | omega | (unfold rg; omega)) (by first | assumption | omega | (unfold rg; omega))) ⟨Nat.le_of_ble_eq_true rfl, Nat.le_of_ble_eq_true rfl⟩ rfl (Nat.le_of_ble_eq_true rfl) ⟨by show _ ≤ 714495; omega, by show _ ≤ 6957984; omega⟩ rfl dL_law_239 (fun r9 u9 hP_4 => ?_)
                  have hlw239 := lw_in y (n := 6) (by omega)
                  obtain ⟨hP_4, hP_4b⟩ := hP_4
                  rw [hP_4, hP_4b]
                  clear hP_4 hP_4b r9 u9
                  refine v_iadd (pc := 242) C dL_law_242 ?_
                  refine v_istore (pc := 243) C [(10, .int (iI (1 + (lw y 6)))), (9, .int (iI 4)), (0, .ref b), (1, .ref (adr L 0 0 0)), (2, .ref (adr L 14 0 0)), (3, .ref (adr L 15 0 0)), (4, .ref (adr L 16 0 0)), (5, .ref (adr L 17 0 0)), (6, .int (iI T)), (7, .int (iI x)), (8, .int (iI y))] (by decide) rfl dL_law_243 ?_
                  refine v_iload (pc := 245) C 1 rfl dL_law_245 ?_
                  refine v_if_ne (pc := 247) C 262 ⟨by (first | assumption | omega | (unfold rg; omega)), by (first | assumption | omega | (unfold rg; omega))⟩ (by decide) dL_law_247 (fun h247 => ?_) (fun h247 => ?_)
                  · skip
                    refine v_iload (pc := 262) C 1 rfl dL_law_262 ?_
                    refine v_iconst (pc := 264) C dL_law_264 ?_
                    refine v_icmp_ne (pc := 265) C 283 ⟨by (first | assumption | omega | (unfold rg; omega)), by (first | assumption | omega | (unfold rg; omega))⟩ ⟨by (first | assumption | omega | (unfold rg; omega)), by (first | assumption | omega | (unfold rg; omega))⟩ (by decide) dL_law_265 (fun h265 => ?_) (fun h265 => ?_)
                    · skip
                      refine v_iload (pc := 283) C 1 rfl dL_law_283 ?_
                      refine v_iconst (pc := 285) C dL_law_285 ?_
                      refine v_icmp_ne (pc := 286) C 302 ⟨by (first | assumption | omega | (unfold rg; omega)), by (first | assumption | omega | (unfold rg; omega))⟩ ⟨by (first | assumption | omega | (unfold rg; omega)), by (first | assumption | omega | (unfold rg; omega))⟩ (by decide) dL_law_286 (fun h286 => ?_) (fun h286 => ?_)
                      · skip
                        refine v_iload (pc := 302) C 1 rfl dL_law_302 ?_
                        refine v_iconst (pc := 304) C dL_law_304 ?_
                        refine v_icmp_ne (pc := 305) C 360 ⟨by (first | assumption | omega | (unfold rg; omega)), by (first | assumption | omega | (unfold rg; omega))⟩ ⟨by (first | assumption | omega | (unfold rg; omega)), by (first | assumption | omega | (unfold rg; omega))⟩ (by decide) dL_law_305 (fun h305 => ?_) (fun h305 => ?_)
                        · skip
                          refine v_iconst (pc := 360) C dL_law_360 ?_
                          refine v_istore (pc := 361) C [(11, .int (iI 0)), (10, .int (iI (1 + (lw y 6)))), (9, .int (iI 4)), (0, .ref b), (1, .ref (adr L 0 0 0)), (2, .ref (adr L 14 0 0)), (3, .ref (adr L 15 0 0)), (4, .ref (adr L 16 0 0)), (5, .ref (adr L 17 0 0)), (6, .int (iI T)), (7, .int (iI x)), (8, .int (iI y))] (by decide) rfl dL_law_361 ?_
                          refine v_iload (pc := 363) C 10 rfl dL_law_363 ?_
                          refine v_bipush (pc := 365) C rfl dL_law_365 ?_
                          refine v_ishrz (pc := 367) C dL_law_367 (fun zs_5 hzs_5 => ?_)
                          refine v_iconst (pc := 368) C dL_law_368 ?_
                          refine v_calliS (pc := 369) C cw_RL_101 (ct_L_low l L g zs_5 3 (by first | assumption | omega | (unfold rg; omega)) (by first | assumption | omega | (unfold rg; omega))) ⟨Nat.le_of_ble_eq_true rfl, Nat.le_of_ble_eq_true rfl⟩ rfl (Nat.le_of_ble_eq_true rfl) ⟨by show _ ≤ 714495; omega, by show _ ≤ 6957984; omega⟩ rfl dL_law_369 (fun r9 u9 hP_6 => ?_)
                          have hlw369 := lw_in zs_5 (n := 3) (by omega)
                          obtain ⟨hP_6, hP_6b⟩ := hP_6
                          rw [hP_6, hP_6b]
                          clear hP_6 hP_6b r9 u9
                          refine v_if_ne (pc := 372) C 392 ⟨by (first | assumption | omega | (unfold rg; omega)), by (first | assumption | omega | (unfold rg; omega))⟩ (by decide) dL_law_372 (fun h372 => ?_) (fun h372 => ?_)
                          · skip
                            refine v_iconst (pc := 392) C dL_law_392 ?_
                            refine v_istore (pc := 393) C [(12, .int (iI 0)), (11, .int (iI 0)), (10, .int (iI (1 + (lw y 6)))), (9, .int (iI 4)), (0, .ref b), (1, .ref (adr L 0 0 0)), (2, .ref (adr L 14 0 0)), (3, .ref (adr L 15 0 0)), (4, .ref (adr L 16 0 0)), (5, .ref (adr L 17 0 0)), (6, .int (iI T)), (7, .int (iI x)), (8, .int (iI y))] (by decide) rfl dL_law_393 ?_
                            refine v_iload (pc := 395) C 0 rfl dL_law_395 ?_
                            refine v_iconst (pc := 397) C dL_law_397 ?_
                            refine v_icmp_ne (pc := 398) C 405 ⟨by (first | assumption | omega | (unfold rg; omega)), by (first | assumption | omega | (unfold rg; omega))⟩ ⟨by (first | assumption | omega | (unfold rg; omega)), by (first | assumption | omega | (unfold rg; omega))⟩ (by decide) dL_law_398 (fun h398 => ?_) (fun h398 => ?_)
                            · skip
                              refine v_iload (pc := 405) C 3 rfl dL_law_405 ?_
                              refine v_istore (pc := 407) C [(9, .int (iI 4)), (12, .int (iI 0)), (11, .int (iI 0)), (10, .int (iI (1 + (lw y 6)))), (0, .ref b), (1, .ref (adr L 0 0 0)), (2, .ref (adr L 14 0 0)), (3, .ref (adr L 15 0 0)), (4, .ref (adr L 16 0 0)), (5, .ref (adr L 17 0 0)), (6, .int (iI T)), (7, .int (iI x)), (8, .int (iI y))] (by decide) rfl dL_law_407 ?_
                              refine v_iload (pc := 409) C 1 rfl dL_law_409 ?_
                              refine v_iconst (pc := 411) C dL_law_411 ?_
                              refine v_icmp_ne (pc := 412) C 424 ⟨by (first | assumption | omega | (unfold rg; omega)), by (first | assumption | omega | (unfold rg; omega))⟩ ⟨by (first | assumption | omega | (unfold rg; omega)), by (first | assumption | omega | (unfold rg; omega))⟩ (by decide) dL_law_412 (fun h412 => ?_) (fun h412 => ?_)
                              · skip
                                refine v_iload (pc := 424) C 3 rfl dL_law_424 ?_
                                refine v_istore (pc := 426) C [(10, .int (iI (1 + (lw y 6)))), (9, .int (iI 4)), (12, .int (iI 0)), (11, .int (iI 0)), (0, .ref b), (1, .ref (adr L 0 0 0)), (2, .ref (adr L 14 0 0)), (3, .ref (adr L 15 0 0)), (4, .ref (adr L 16 0 0)), (5, .ref (adr L 17 0 0)), (6, .int (iI T)), (7, .int (iI x)), (8, .int (iI y))] (by decide) rfl dL_law_426 ?_
                                refine v_iload (pc := 428) C 2 rfl dL_law_428 ?_
                                refine v_iconst (pc := 430) C dL_law_430 ?_
                                refine v_icmp_ne (pc := 431) C 446 ⟨by (first | assumption | omega | (unfold rg; omega)), by (first | assumption | omega | (unfold rg; omega))⟩ ⟨by (first | assumption | omega | (unfold rg; omega)), by (first | assumption | omega | (unfold rg; omega))⟩ (by decide) dL_law_431 (fun h431 => ?_) (fun h431 => ?_)
                                · skip
                                  refine v_iload (pc := 446) C 3 rfl dL_law_446 ?_
                                  refine v_istore (pc := 448) C [(11, .int (iI 0)), (10, .int (iI (1 + (lw y 6)))), (9, .int (iI 4)), (12, .int (iI 0)), (0, .ref b), (1, .ref (adr L 0 0 0)), (2, .ref (adr L 14 0 0)), (3, .ref (adr L 15 0 0)), (4, .ref (adr L 16 0 0)), (5, .ref (adr L 17 0 0)), (6, .int (iI T)), (7, .int (iI x)), (8, .int (iI y))] (by decide) rfl dL_law_448 ?_
                                  refine v_lsub [4, 5, 6, 7, 8, 9, 10, 11, 12, 2, 1, 0] rfl ?_
                                  exact vs_lB hfl C h0 hcE hsE g b T x y 4 (1 + (lw y 6)) 0 hT hrx hry hJ (by unfold lwH; omega) hE kend
                                · skip
                                  exfalso; omega
                              · skip
                                exfalso; omega
                            · skip
                              exfalso; omega
                          · skip
                            refine v_aload_n (pc := 375) C 4 rfl rfl dL_law_375 ?_
                            refine v_iload (pc := 376) C 11 rfl dL_law_376 ?_
                            refine v_iconst (pc := 378) C dL_law_378 ?_
                            refine v_calliS (pc := 379) C cw_RL_101 (ct_L_low l L g y 4 (by first | assumption | omega | (unfold rg; omega)) (by first | assumption | omega | (unfold rg; omega))) ⟨Nat.le_of_ble_eq_true rfl, Nat.le_of_ble_eq_true rfl⟩ rfl (Nat.le_of_ble_eq_true rfl) ⟨by show _ ≤ 714495; omega, by show _ ≤ 6957984; omega⟩ rfl dL_law_379 (fun r9 u9 hP_7 => ?_)
                            have hlw379 := lw_in y (n := 4) (by omega)
                            obtain ⟨hP_7, hP_7b⟩ := hP_7
                            rw [hP_7, hP_7b]
                            clear hP_7 hP_7b r9 u9
                            refine v_calliH (pc := 382) C cwh_L_callIn (ct_L_callIn l L g (lw y 4) (by omega) (by exact hK.2.1)) ⟨Nat.le_of_ble_eq_true rfl, Nat.le_of_ble_eq_true rfl⟩ rfl (Nat.le_of_ble_eq_true rfl) ⟨by show _ ≤ 714495; omega, by show _ ≤ 6957984; omega⟩ rfl dL_law_382 (fun r9 u9 hP_8 => ?_)
                            obtain ⟨hP_8, hP_8b⟩ := hP_8
                            rw [hP_8, hP_8b]
                            clear hP_8 hP_8b r9 u9
                            refine v_topi (b := mBw (em g) (lw y 4)) C (ci_tie hK.2.2.2.1.1 ⟨by omega, by omega⟩) ?_
                            have hmb : -1 ≤ mBw (em g) (lw y 4) ∧ mBw (em g) (lw y 4) ≤ 61 := by (unfold mBw; have := frst_in (mMB (em g) (lw y 4)) 61 0 (by decide); omega)
                            refine v_if_ne (pc := 385) C 392 ⟨by (first | assumption | omega | (unfold rg; omega)), by (first | assumption | omega | (unfold rg; omega))⟩ (by decide) dL_law_385 (fun h385 => ?_) (fun h385 => ?_)
                            · skip
                              refine v_iconst (pc := 392) C dL_law_392 ?_
                              refine v_istore (pc := 393) C [(12, .int (iI 0)), (11, .int (iI 0)), (10, .int (iI (1 + (lw y 6)))), (9, .int (iI 4)), (0, .ref b), (1, .ref (adr L 0 0 0)), (2, .ref (adr L 14 0 0)), (3, .ref (adr L 15 0 0)), (4, .ref (adr L 16 0 0)), (5, .ref (adr L 17 0 0)), (6, .int (iI T)), (7, .int (iI x)), (8, .int (iI y))] (by decide) rfl dL_law_393 ?_
                              refine v_iload (pc := 395) C 0 rfl dL_law_395 ?_
                              refine v_iconst (pc := 397) C dL_law_397 ?_
                              refine v_icmp_ne (pc := 398) C 405 ⟨by (first | assumption | omega | (unfold rg; omega)), by (first | assumption | omega | (unfold rg; omega))⟩ ⟨by (first | assumption | omega | (unfold rg; omega)), by (first | assumption | omega | (unfold rg; omega))⟩ (by decide) dL_law_398 (fun h398 => ?_) (fun h398 => ?_)
                              · skip
                                refine v_iload (pc := 405) C 3 rfl dL_law_405 ?_
                                refine v_istore (pc := 407) C [(9, .int (iI 4)), (12, .int (iI 0)), (11, .int (iI 0)), (10, .int (iI (1 + (lw y 6)))), (0, .ref b), (1, .ref (adr L 0 0 0)), (2, .ref (adr L 14 0 0)), (3, .ref (adr L 15 0 0)), (4, .ref (adr L 16 0 0)), (5, .ref (adr L 17 0 0)), (6, .int (iI T)), (7, .int (iI x)), (8, .int (iI y))] (by decide) rfl dL_law_407 ?_
                                refine v_iload (pc := 409) C 1 rfl dL_law_409 ?_
                                refine v_iconst (pc := 411) C dL_law_411 ?_
                                refine v_icmp_ne (pc := 412) C 424 ⟨by (first | assumption | omega | (unfold rg; omega)), by (first | assumption | omega | (unfold rg; omega))⟩ ⟨by (first | assumption | omega | (unfold rg; omega)), by (first | assumption | omega | (unfold rg; omega))⟩ (by decide) dL_law_412 (fun h412 => ?_) (fun h412 => ?_)
                                · skip
                                  refine v_iload (pc := 424) C 3 rfl dL_law_424 ?_
                                  refine v_istore (pc := 426) C [(10, .int (iI (1 + (lw y 6)))), (9, .int (iI 4)), (12, .int (iI 0)), (11, .int (iI 0)), (0, .ref b), (1, .ref (adr L 0 0 0)), (2, .ref (adr L 14 0 0)), (3, .ref (adr L 15 0 0)), (4, .ref (adr L 16 0 0)), (5, .ref (adr L 17 0 0)), (6, .int (iI T)), (7, .int (iI x)), (8, .int (iI y))] (by decide) rfl dL_law_426 ?_
                                  refine v_iload (pc := 428) C 2 rfl dL_law_428 ?_
                                  refine v_iconst (pc := 430) C dL_law_430 ?_
                                  refine v_icmp_ne (pc := 431) C 446 ⟨by (first | assumption | omega | (unfold rg; omega)), by (first | assumption | omega | (unfold rg; omega))⟩ ⟨by (first | assumption | omega | (unfold rg; omega)), by (first | assumption | omega | (unfold rg; omega))⟩ (by decide) dL_law_431 (fun h431 => ?_) (fun h431 => ?_)
                                  · skip
                                    refine v_iload (pc := 446) C 3 rfl dL_law_446 ?_
                                    refine v_istore (pc := 448) C [(11, .int (iI 0)), (10, .int (iI (1 + (lw y 6)))), (9, .int (iI 4)), (12, .int (iI 0)), (0, .ref b), (1, .ref (adr L 0 0 0)), (2, .ref (adr L 14 0 0)), (3, .ref (adr L 15 0 0)), (4, .ref (adr L 16 0 0)), (5, .ref (adr L 17 0 0)), (6, .int (iI T)), (7, .int (iI x)), (8, .int (iI y))] (by decide) rfl dL_law_448 ?_
                                    refine v_lsub [4, 5, 6, 7, 8, 9, 10, 11, 12, 2, 1, 0] rfl ?_
                                    exact vs_lB hfl C h0 hcE hsE g b T x y 4 (1 + (lw y 6)) 0 hT hrx hry hJ (by unfold lwH; omega) hE kend
                                  · skip
                                    exfalso; omega
                                · skip
                                  exfalso; omega
                              · skip
                                exfalso; omega
                            · skip
                              refine v_iconst (pc := 388) C dL_law_388 ?_
                              refine v_goto (pc := 389) C 393 (by decide) dL_law_389 ?_
                              refine v_istore (pc := 393) C [(12, .int (iI 1)), (11, .int (iI 0)), (10, .int (iI (1 + (lw y 6)))), (9, .int (iI 4)), (0, .ref b), (1, .ref (adr L 0 0 0)), (2, .ref (adr L 14 0 0)), (3, .ref (adr L 15 0 0)), (4, .ref (adr L 16 0 0)), (5, .ref (adr L 17 0 0)), (6, .int (iI T)), (7, .int (iI x)), (8, .int (iI y))] (by decide) rfl dL_law_393 ?_
                              refine v_iload (pc := 395) C 0 rfl dL_law_395 ?_
                              refine v_iconst (pc := 397) C dL_law_397 ?_
                              refine v_icmp_ne (pc := 398) C 405 ⟨by (first | assumption | omega | (unfold rg; omega)), by (first | assumption | omega | (unfold rg; omega))⟩ ⟨by (first | assumption | omega | (unfold rg; omega)), by (first | assumption | omega | (unfold rg; omega))⟩ (by decide) dL_law_398 (fun h398 => ?_) (fun h398 => ?_)
                              · skip
                                exfalso; omega
                              · skip
                                refine v_iconst (pc := 401) C dL_law_401 ?_
                                refine v_goto (pc := 402) C 407 (by decide) dL_law_402 ?_
                                refine v_istore (pc := 407) C [(9, .int (iI 0)), (12, .int (iI 1)), (11, .int (iI 0)), (10, .int (iI (1 + (lw y 6)))), (0, .ref b), (1, .ref (adr L 0 0 0)), (2, .ref (adr L 14 0 0)), (3, .ref (adr L 15 0 0)), (4, .ref (adr L 16 0 0)), (5, .ref (adr L 17 0 0)), (6, .int (iI T)), (7, .int (iI x)), (8, .int (iI y))] (by decide) rfl dL_law_407 ?_
                                refine v_iload (pc := 409) C 1 rfl dL_law_409 ?_
                                refine v_iconst (pc := 411) C dL_law_411 ?_
                                refine v_icmp_ne (pc := 412) C 424 ⟨by (first | assumption | omega | (unfold rg; omega)), by (first | assumption | omega | (unfold rg; omega))⟩ ⟨by (first | assumption | omega | (unfold rg; omega)), by (first | assumption | omega | (unfold rg; omega))⟩ (by decide) dL_law_412 (fun h412 => ?_) (fun h412 => ?_)
                                · skip
                                  exfalso; omega
                                · skip
                                  refine v_iload (pc := 415) C 12 rfl dL_law_415 ?_
                                  refine v_iconst (pc := 417) C dL_law_417 ?_
                                  refine v_calliS (pc := 418) C cw_RL_101 (ct_L_low l L g y 4 (by first | assumption | omega | (unfold rg; omega)) (by first | assumption | omega | (unfold rg; omega))) ⟨Nat.le_of_ble_eq_true rfl, Nat.le_of_ble_eq_true rfl⟩ rfl (Nat.le_of_ble_eq_true rfl) ⟨by show _ ≤ 714495; omega, by show _ ≤ 6957984; omega⟩ rfl dL_law_418 (fun r9 u9 hP_9 => ?_)
                                  have hlw418 := lw_in y (n := 4) (by omega)
                                  obtain ⟨hP_9, hP_9b⟩ := hP_9
                                  rw [hP_9, hP_9b]
                                  clear hP_9 hP_9b r9 u9
                                  refine v_goto (pc := 421) C 426 (by decide) dL_law_421 ?_
                                  refine v_istore (pc := 426) C [(10, .int (iI (lw y 4))), (9, .int (iI 0)), (12, .int (iI 1)), (11, .int (iI 0)), (0, .ref b), (1, .ref (adr L 0 0 0)), (2, .ref (adr L 14 0 0)), (3, .ref (adr L 15 0 0)), (4, .ref (adr L 16 0 0)), (5, .ref (adr L 17 0 0)), (6, .int (iI T)), (7, .int (iI x)), (8, .int (iI y))] (by decide) rfl dL_law_426 ?_
                                  refine v_iload (pc := 428) C 2 rfl dL_law_428 ?_
                                  refine v_iconst (pc := 430) C dL_law_430 ?_
                                  refine v_icmp_ne (pc := 431) C 446 ⟨by (first | assumption | omega | (unfold rg; omega)), by (first | assumption | omega | (unfold rg; omega))⟩ ⟨by (first | assumption | omega | (unfold rg; omega)), by (first | assumption | omega | (unfold rg; omega))⟩ (by decide) dL_law_431 (fun h431 => ?_) (fun h431 => ?_)
                                  · skip
                                    exfalso; omega
                                  · skip
                                    refine v_iload (pc := 434) C 12 rfl dL_law_434 ?_
                                    refine v_iconst (pc := 436) C dL_law_436 ?_
                                    refine v_ishrz (pc := 437) C dL_law_437 (fun zs_10 hzs_10 => ?_)
                                    refine v_bipush (pc := 438) C rfl dL_law_438 ?_
                                    refine v_calliS (pc := 440) C cw_RL_101 (ct_L_low l L g zs_10 10 (by first | assumption | omega | (unfold rg; omega)) (by first | assumption | omega | (unfold rg; omega))) ⟨Nat.le_of_ble_eq_true rfl, Nat.le_of_ble_eq_true rfl⟩ rfl (Nat.le_of_ble_eq_true rfl) ⟨by show _ ≤ 714495; omega, by show _ ≤ 6957984; omega⟩ rfl dL_law_440 (fun r9 u9 hP_11 => ?_)
                                    have hlw440 := lw_in zs_10 (n := 10) (by omega)
                                    obtain ⟨hP_11, hP_11b⟩ := hP_11
                                    rw [hP_11, hP_11b]
                                    clear hP_11 hP_11b r9 u9
                                    refine v_goto (pc := 443) C 448 (by decide) dL_law_443 ?_
                                    refine v_istore (pc := 448) C [(11, .int (iI (lw zs_10 10))), (10, .int (iI (lw y 4))), (9, .int (iI 0)), (12, .int (iI 1)), (0, .ref b), (1, .ref (adr L 0 0 0)), (2, .ref (adr L 14 0 0)), (3, .ref (adr L 15 0 0)), (4, .ref (adr L 16 0 0)), (5, .ref (adr L 17 0 0)), (6, .int (iI T)), (7, .int (iI x)), (8, .int (iI y))] (by decide) rfl dL_law_448 ?_
                                    refine v_lsub [4, 5, 6, 7, 8, 9, 10, 11, 12, 2, 1, 0] rfl ?_
                                    exact vs_lB hfl C h0 hcE hsE g b T x y 0 (lw y 4) (lw zs_10 10) hT hrx hry hJ (by unfold lwH; omega) hE kend
                        · skip
                          exfalso; omega
                      · skip
                        exfalso; omega
                    · skip
                      exfalso; omega
                  · skip
                    exfalso; omega
                · skip
                  refine v_bipush (pc := 232) C rfl dL_law_232 ?_
                  refine v_goto (pc := 234) C 239 (by decide) dL_law_234 ?_
                  refine v_calliS (pc := 239) C cw_RL_101 (ct_L_low l L g y 99 (by first | assumption | omega | (unfold rg; omega)) (by first | assumption | omega | (unfold rg; omega))) ⟨Nat.le_of_ble_eq_true rfl, Nat.le_of_ble_eq_true rfl⟩ rfl (Nat.le_of_ble_eq_true rfl) ⟨by show _ ≤ 714495; omega, by show _ ≤ 6957984; omega⟩ rfl dL_law_239 (fun r9 u9 hP_12 => ?_)
                  have hlw239 := lw_in y (n := 99) (by omega)
                  obtain ⟨hP_12, hP_12b⟩ := hP_12
                  rw [hP_12, hP_12b]
                  clear hP_12 hP_12b r9 u9
                  refine v_iadd (pc := 242) C dL_law_242 ?_
                  refine v_istore (pc := 243) C [(10, .int (iI (1 + (lw y 99)))), (9, .int (iI 4)), (0, .ref b), (1, .ref (adr L 0 0 0)), (2, .ref (adr L 14 0 0)), (3, .ref (adr L 15 0 0)), (4, .ref (adr L 16 0 0)), (5, .ref (adr L 17 0 0)), (6, .int (iI T)), (7, .int (iI x)), (8, .int (iI y))] (by decide) rfl dL_law_243 ?_
                  refine v_iload (pc := 245) C 1 rfl dL_law_245 ?_
                  refine v_if_ne (pc := 247) C 262 ⟨by (first | assumption | omega | (unfold rg; omega)), by (first | assumption | omega | (unfold rg; omega))⟩ (by decide) dL_law_247 (fun h247 => ?_) (fun h247 => ?_)
                  · skip
                    refine v_iload (pc := 262) C 1 rfl dL_law_262 ?_
                    refine v_iconst (pc := 264) C dL_law_264 ?_
                    refine v_icmp_ne (pc := 265) C 283 ⟨by (first | assumption | omega | (unfold rg; omega)), by (first | assumption | omega | (unfold rg; omega))⟩ ⟨by (first | assumption | omega | (unfold rg; omega)), by (first | assumption | omega | (unfold rg; omega))⟩ (by decide) dL_law_265 (fun h265 => ?_) (fun h265 => ?_)
                    · skip
                      refine v_iload (pc := 283) C 1 rfl dL_law_283 ?_
                      refine v_iconst (pc := 285) C dL_law_285 ?_
                      refine v_icmp_ne (pc := 286) C 302 ⟨by (first | assumption | omega | (unfold rg; omega)), by (first | assumption | omega | (unfold rg; omega))⟩ ⟨by (first | assumption | omega | (unfold rg; omega)), by (first | assumption | omega | (unfold rg; omega))⟩ (by decide) dL_law_286 (fun h286 => ?_) (fun h286 => ?_)
                      · skip
                        refine v_iload (pc := 302) C 1 rfl dL_law_302 ?_
                        refine v_iconst (pc := 304) C dL_law_304 ?_
                        refine v_icmp_ne (pc := 305) C 360 ⟨by (first | assumption | omega | (unfold rg; omega)), by (first | assumption | omega | (unfold rg; omega))⟩ ⟨by (first | assumption | omega | (unfold rg; omega)), by (first | assumption | omega | (unfold rg; omega))⟩ (by decide) dL_law_305 (fun h305 => ?_) (fun h305 => ?_)
                        · skip
                          refine v_iconst (pc := 360) C dL_law_360 ?_
                          refine v_istore (pc := 361) C [(11, .int (iI 0)), (10, .int (iI (1 + (lw y 99)))), (9, .int (iI 4)), (0, .ref b), (1, .ref (adr L 0 0 0)), (2, .ref (adr L 14 0 0)), (3, .ref (adr L 15 0 0)), (4, .ref (adr L 16 0 0)), (5, .ref (adr L 17 0 0)), (6, .int (iI T)), (7, .int (iI x)), (8, .int (iI y))] (by decide) rfl dL_law_361 ?_
                          refine v_iload (pc := 363) C 10 rfl dL_law_363 ?_
                          refine v_bipush (pc := 365) C rfl dL_law_365 ?_
                          refine v_ishrz (pc := 367) C dL_law_367 (fun zs_13 hzs_13 => ?_)
                          refine v_iconst (pc := 368) C dL_law_368 ?_
                          refine v_calliS (pc := 369) C cw_RL_101 (ct_L_low l L g zs_13 3 (by first | assumption | omega | (unfold rg; omega)) (by first | assumption | omega | (unfold rg; omega))) ⟨Nat.le_of_ble_eq_true rfl, Nat.le_of_ble_eq_true rfl⟩ rfl (Nat.le_of_ble_eq_true rfl) ⟨by show _ ≤ 714495; omega, by show _ ≤ 6957984; omega⟩ rfl dL_law_369 (fun r9 u9 hP_14 => ?_)
                          have hlw369 := lw_in zs_13 (n := 3) (by omega)
                          obtain ⟨hP_14, hP_14b⟩ := hP_14
                          rw [hP_14, hP_14b]
                          clear hP_14 hP_14b r9 u9
                          refine v_if_ne (pc := 372) C 392 ⟨by (first | assumption | omega | (unfold rg; omega)), by (first | assumption | omega | (unfold rg; omega))⟩ (by decide) dL_law_372 (fun h372 => ?_) (fun h372 => ?_)
                          · skip
                            refine v_iconst (pc := 392) C dL_law_392 ?_
                            refine v_istore (pc := 393) C [(12, .int (iI 0)), (11, .int (iI 0)), (10, .int (iI (1 + (lw y 99)))), (9, .int (iI 4)), (0, .ref b), (1, .ref (adr L 0 0 0)), (2, .ref (adr L 14 0 0)), (3, .ref (adr L 15 0 0)), (4, .ref (adr L 16 0 0)), (5, .ref (adr L 17 0 0)), (6, .int (iI T)), (7, .int (iI x)), (8, .int (iI y))] (by decide) rfl dL_law_393 ?_
                            refine v_iload (pc := 395) C 0 rfl dL_law_395 ?_
                            refine v_iconst (pc := 397) C dL_law_397 ?_
                            refine v_icmp_ne (pc := 398) C 405 ⟨by (first | assumption | omega | (unfold rg; omega)), by (first | assumption | omega | (unfold rg; omega))⟩ ⟨by (first | assumption | omega | (unfold rg; omega)), by (first | assumption | omega | (unfold rg; omega))⟩ (by decide) dL_law_398 (fun h398 => ?_) (fun h398 => ?_)
                            · skip
                              refine v_iload (pc := 405) C 3 rfl dL_law_405 ?_
                              refine v_istore (pc := 407) C [(9, .int (iI 4)), (12, .int (iI 0)), (11, .int (iI 0)), (10, .int (iI (1 + (lw y 99)))), (0, .ref b), (1, .ref (adr L 0 0 0)), (2, .ref (adr L 14 0 0)), (3, .ref (adr L 15 0 0)), (4, .ref (adr L 16 0 0)), (5, .ref (adr L 17 0 0)), (6, .int (iI T)), (7, .int (iI x)), (8, .int (iI y))] (by decide) rfl dL_law_407 ?_
                              refine v_iload (pc := 409) C 1 rfl dL_law_409 ?_
                              refine v_iconst (pc := 411) C dL_law_411 ?_
                              refine v_icmp_ne (pc := 412) C 424 ⟨by (first | assumption | omega | (unfold rg; omega)), by (first | assumption | omega | (unfold rg; omega))⟩ ⟨by (first | assumption | omega | (unfold rg; omega)), by (first | assumption | omega | (unfold rg; omega))⟩ (by decide) dL_law_412 (fun h412 => ?_) (fun h412 => ?_)
                              · skip
                                refine v_iload (pc := 424) C 3 rfl dL_law_424 ?_
                                refine v_istore (pc := 426) C [(10, .int (iI (1 + (lw y 99)))), (9, .int (iI 4)), (12, .int (iI 0)), (11, .int (iI 0)), (0, .ref b), (1, .ref (adr L 0 0 0)), (2, .ref (adr L 14 0 0)), (3, .ref (adr L 15 0 0)), (4, .ref (adr L 16 0 0)), (5, .ref (adr L 17 0 0)), (6, .int (iI T)), (7, .int (iI x)), (8, .int (iI y))] (by decide) rfl dL_law_426 ?_
                                refine v_iload (pc := 428) C 2 rfl dL_law_428 ?_
                                refine v_iconst (pc := 430) C dL_law_430 ?_
                                refine v_icmp_ne (pc := 431) C 446 ⟨by (first | assumption | omega | (unfold rg; omega)), by (first | assumption | omega | (unfold rg; omega))⟩ ⟨by (first | assumption | omega | (unfold rg; omega)), by (first | assumption | omega | (unfold rg; omega))⟩ (by decide) dL_law_431 (fun h431 => ?_) (fun h431 => ?_)
                                · skip
                                  refine v_iload (pc := 446) C 3 rfl dL_law_446 ?_
                                  refine v_istore (pc := 448) C [(11, .int (iI 0)), (10, .int (iI (1 + (lw y 99)))), (9, .int (iI 4)), (12, .int (iI 0)), (0, .ref b), (1, .ref (adr L 0 0 0)), (2, .ref (adr L 14 0 0)), (3, .ref (adr L 15 0 0)), (4, .ref (adr L 16 0 0)), (5, .ref (adr L 17 0 0)), (6, .int (iI T)), (7, .int (iI x)), (8, .int (iI y))] (by decide) rfl dL_law_448 ?_
                                  refine v_lsub [4, 5, 6, 7, 8, 9, 10, 11, 12, 2, 1, 0] rfl ?_
                                  exact vs_lB hfl C h0 hcE hsE g b T x y 4 (1 + (lw y 99)) 0 hT hrx hry hJ (by unfold lwH; omega) hE kend
                                · skip
                                  exfalso; omega
                              · skip
                                exfalso; omega
                            · skip
                              exfalso; omega
                          · skip
                            refine v_aload_n (pc := 375) C 4 rfl rfl dL_law_375 ?_
                            refine v_iload (pc := 376) C 11 rfl dL_law_376 ?_
                            refine v_iconst (pc := 378) C dL_law_378 ?_
                            refine v_calliS (pc := 379) C cw_RL_101 (ct_L_low l L g y 4 (by first | assumption | omega | (unfold rg; omega)) (by first | assumption | omega | (unfold rg; omega))) ⟨Nat.le_of_ble_eq_true rfl, Nat.le_of_ble_eq_true rfl⟩ rfl (Nat.le_of_ble_eq_true rfl) ⟨by show _ ≤ 714495; omega, by show _ ≤ 6957984; omega⟩ rfl dL_law_379 (fun r9 u9 hP_15 => ?_)
                            have hlw379 := lw_in y (n := 4) (by omega)
                            obtain ⟨hP_15, hP_15b⟩ := hP_15
                            rw [hP_15, hP_15b]
                            clear hP_15 hP_15b r9 u9
                            refine v_calliH (pc := 382) C cwh_L_callIn (ct_L_callIn l L g (lw y 4) (by omega) (by exact hK.2.1)) ⟨Nat.le_of_ble_eq_true rfl, Nat.le_of_ble_eq_true rfl⟩ rfl (Nat.le_of_ble_eq_true rfl) ⟨by show _ ≤ 714495; omega, by show _ ≤ 6957984; omega⟩ rfl dL_law_382 (fun r9 u9 hP_16 => ?_)
                            obtain ⟨hP_16, hP_16b⟩ := hP_16
                            rw [hP_16, hP_16b]
                            clear hP_16 hP_16b r9 u9
                            refine v_topi (b := mBw (em g) (lw y 4)) C (ci_tie hK.2.2.2.1.1 ⟨by omega, by omega⟩) ?_
                            have hmb : -1 ≤ mBw (em g) (lw y 4) ∧ mBw (em g) (lw y 4) ≤ 61 := by (unfold mBw; have := frst_in (mMB (em g) (lw y 4)) 61 0 (by decide); omega)
                            refine v_if_ne (pc := 385) C 392 ⟨by (first | assumption | omega | (unfold rg; omega)), by (first | assumption | omega | (unfold rg; omega))⟩ (by decide) dL_law_385 (fun h385 => ?_) (fun h385 => ?_)
                            · skip
                              refine v_iconst (pc := 392) C dL_law_392 ?_
                              refine v_istore (pc := 393) C [(12, .int (iI 0)), (11, .int (iI 0)), (10, .int (iI (1 + (lw y 99)))), (9, .int (iI 4)), (0, .ref b), (1, .ref (adr L 0 0 0)), (2, .ref (adr L 14 0 0)), (3, .ref (adr L 15 0 0)), (4, .ref (adr L 16 0 0)), (5, .ref (adr L 17 0 0)), (6, .int (iI T)), (7, .int (iI x)), (8, .int (iI y))] (by decide) rfl dL_law_393 ?_
                              refine v_iload (pc := 395) C 0 rfl dL_law_395 ?_
                              refine v_iconst (pc := 397) C dL_law_397 ?_
                              refine v_icmp_ne (pc := 398) C 405 ⟨by (first | assumption | omega | (unfold rg; omega)), by (first | assumption | omega | (unfold rg; omega))⟩ ⟨by (first | assumption | omega | (unfold rg; omega)), by (first | assumption | omega | (unfold rg; omega))⟩ (by decide) dL_law_398 (fun h398 => ?_) (fun h398 => ?_)
                              · skip
                                refine v_iload (pc := 405) C 3 rfl dL_law_405 ?_
                                refine v_istore (pc := 407) C [(9, .int (iI 4)), (12, .int (iI 0)), (11, .int (iI 0)), (10, .int (iI (1 + (lw y 99)))), (0, .ref b), (1, .ref (adr L 0 0 0)), (2, .ref (adr L 14 0 0)), (3, .ref (adr L 15 0 0)), (4, .ref (adr L 16 0 0)), (5, .ref (adr L 17 0 0)), (6, .int (iI T)), (7, .int (iI x)), (8, .int (iI y))] (by decide) rfl dL_law_407 ?_
                                refine v_iload (pc := 409) C 1 rfl dL_law_409 ?_
                                refine v_iconst (pc := 411) C dL_law_411 ?_
                                refine v_icmp_ne (pc := 412) C 424 ⟨by (first | assumption | omega | (unfold rg; omega)), by (first | assumption | omega | (unfold rg; omega))⟩ ⟨by (first | assumption | omega | (unfold rg; omega)), by (first | assumption | omega | (unfold rg; omega))⟩ (by decide) dL_law_412 (fun h412 => ?_) (fun h412 => ?_)
                                · skip
                                  refine v_iload (pc := 424) C 3 rfl dL_law_424 ?_
                                  refine v_istore (pc := 426) C [(10, .int (iI (1 + (lw y 99)))), (9, .int (iI 4)), (12, .int (iI 0)), (11, .int (iI 0)), (0, .ref b), (1, .ref (adr L 0 0 0)), (2, .ref (adr L 14 0 0)), (3, .ref (adr L 15 0 0)), (4, .ref (adr L 16 0 0)), (5, .ref (adr L 17 0 0)), (6, .int (iI T)), (7, .int (iI x)), (8, .int (iI y))] (by decide) rfl dL_law_426 ?_
                                  refine v_iload (pc := 428) C 2 rfl dL_law_428 ?_
                                  refine v_iconst (pc := 430) C dL_law_430 ?_
                                  refine v_icmp_ne (pc := 431) C 446 ⟨by (first | assumption | omega | (unfold rg; omega)), by (first | assumption | omega | (unfold rg; omega))⟩ ⟨by (first | assumption | omega | (unfold rg; omega)), by (first | assumption | omega | (unfold rg; omega))⟩ (by decide) dL_law_431 (fun h431 => ?_) (fun h431 => ?_)
                                  · skip
                                    refine v_iload (pc := 446) C 3 rfl dL_law_446 ?_
                                    refine v_istore (pc := 448) C [(11, .int (iI 0)), (10, .int (iI (1 + (lw y 99)))), (9, .int (iI 4)), (12, .int (iI 0)), (0, .ref b), (1, .ref (adr L 0 0 0)), (2, .ref (adr L 14 0 0)), (3, .ref (adr L 15 0 0)), (4, .ref (adr L 16 0 0)), (5, .ref (adr L 17 0 0)), (6, .int (iI T)), (7, .int (iI x)), (8, .int (iI y))] (by decide) rfl dL_law_448 ?_
                                    refine v_lsub [4, 5, 6, 7, 8, 9, 10, 11, 12, 2, 1, 0] rfl ?_
                                    exact vs_lB hfl C h0 hcE hsE g b T x y 4 (1 + (lw y 99)) 0 hT hrx hry hJ (by unfold lwH; omega) hE kend
                                  · skip
                                    exfalso; omega
                                · skip
                                  exfalso; omega
                              · skip
                                exfalso; omega
                            · skip
                              refine v_iconst (pc := 388) C dL_law_388 ?_
                              refine v_goto (pc := 389) C 393 (by decide) dL_law_389 ?_
                              refine v_istore (pc := 393) C [(12, .int (iI 1)), (11, .int (iI 0)), (10, .int (iI (1 + (lw y 99)))), (9, .int (iI 4)), (0, .ref b), (1, .ref (adr L 0 0 0)), (2, .ref (adr L 14 0 0)), (3, .ref (adr L 15 0 0)), (4, .ref (adr L 16 0 0)), (5, .ref (adr L 17 0 0)), (6, .int (iI T)), (7, .int (iI x)), (8, .int (iI y))] (by decide) rfl dL_law_393 ?_
                              refine v_iload (pc := 395) C 0 rfl dL_law_395 ?_
                              refine v_iconst (pc := 397) C dL_law_397 ?_
                              refine v_icmp_ne (pc := 398) C 405 ⟨by (first | assumption | omega | (unfold rg; omega)), by (first | assumption | omega | (unfold rg; omega))⟩ ⟨by (first | assumption | omega | (unfold rg; omega)), by (first | assumption | omega | (unfold rg; omega))⟩ (by decide) dL_law_398 (fun h398 => ?_) (fun h398 => ?_)
                              · skip
                                exfalso; omega
                              · skip
                                refine v_iconst (pc := 401) C dL_law_401 ?_
                                refine v_goto (pc := 402) C 407 (by decide) dL_law_402 ?_
                                refine v_istore (pc := 407) C [(9, .int (iI 0)), (12, .int (iI 1)), (11, .int (iI 0)), (10, .int (iI (1 + (lw y 99)))), (0, .ref b), (1, .ref (adr L 0 0 0)), (2, .ref (adr L 14 0 0)), (3, .ref (adr L 15 0 0)), (4, .ref (adr L 16 0 0)), (5, .ref (adr L 17 0 0)), (6, .int (iI T)), (7, .int (iI x)), (8, .int (iI y))] (by decide) rfl dL_law_407 ?_
                                refine v_iload (pc := 409) C 1 rfl dL_law_409 ?_
                                refine v_iconst (pc := 411) C dL_law_411 ?_
                                refine v_icmp_ne (pc := 412) C 424 ⟨by (first | assumption | omega | (unfold rg; omega)), by (first | assumption | omega | (unfold rg; omega))⟩ ⟨by (first | assumption | omega | (unfold rg; omega)), by (first | assumption | omega | (unfold rg; omega))⟩ (by decide) dL_law_412 (fun h412 => ?_) (fun h412 => ?_)
                                · skip
                                  exfalso; omega
                                · skip
                                  refine v_iload (pc := 415) C 12 rfl dL_law_415 ?_
                                  refine v_iconst (pc := 417) C dL_law_417 ?_
                                  refine v_calliS (pc := 418) C cw_RL_101 (ct_L_low l L g y 4 (by first | assumption | omega | (unfold rg; omega)) (by first | assumption | omega | (unfold rg; omega))) ⟨Nat.le_of_ble_eq_true rfl, Nat.le_of_ble_eq_true rfl⟩ rfl (Nat.le_of_ble_eq_true rfl) ⟨by show _ ≤ 714495; omega, by show _ ≤ 6957984; omega⟩ rfl dL_law_418 (fun r9 u9 hP_17 => ?_)
                                  have hlw418 := lw_in y (n := 4) (by omega)
                                  obtain ⟨hP_17, hP_17b⟩ := hP_17
                                  rw [hP_17, hP_17b]
                                  clear hP_17 hP_17b r9 u9
                                  refine v_goto (pc := 421) C 426 (by decide) dL_law_421 ?_
                                  refine v_istore (pc := 426) C [(10, .int (iI (lw y 4))), (9, .int (iI 0)), (12, .int (iI 1)), (11, .int (iI 0)), (0, .ref b), (1, .ref (adr L 0 0 0)), (2, .ref (adr L 14 0 0)), (3, .ref (adr L 15 0 0)), (4, .ref (adr L 16 0 0)), (5, .ref (adr L 17 0 0)), (6, .int (iI T)), (7, .int (iI x)), (8, .int (iI y))] (by decide) rfl dL_law_426 ?_
                                  refine v_iload (pc := 428) C 2 rfl dL_law_428 ?_
                                  refine v_iconst (pc := 430) C dL_law_430 ?_
                                  refine v_icmp_ne (pc := 431) C 446 ⟨by (first | assumption | omega | (unfold rg; omega)), by (first | assumption | omega | (unfold rg; omega))⟩ ⟨by (first | assumption | omega | (unfold rg; omega)), by (first | assumption | omega | (unfold rg; omega))⟩ (by decide) dL_law_431 (fun h431 => ?_) (fun h431 => ?_)
                                  · skip
                                    exfalso; omega
                                  · skip
                                    refine v_iload (pc := 434) C 12 rfl dL_law_434 ?_
                                    refine v_iconst (pc := 436) C dL_law_436 ?_
                                    refine v_ishrz (pc := 437) C dL_law_437 (fun zs_18 hzs_18 => ?_)
                                    refine v_bipush (pc := 438) C rfl dL_law_438 ?_
                                    refine v_calliS (pc := 440) C cw_RL_101 (ct_L_low l L g zs_18 10 (by first | assumption | omega | (unfold rg; omega)) (by first | assumption | omega | (unfold rg; omega))) ⟨Nat.le_of_ble_eq_true rfl, Nat.le_of_ble_eq_true rfl⟩ rfl (Nat.le_of_ble_eq_true rfl) ⟨by show _ ≤ 714495; omega, by show _ ≤ 6957984; omega⟩ rfl dL_law_440 (fun r9 u9 hP_19 => ?_)
                                    have hlw440 := lw_in zs_18 (n := 10) (by omega)
                                    obtain ⟨hP_19, hP_19b⟩ := hP_19
                                    rw [hP_19, hP_19b]
                                    clear hP_19 hP_19b r9 u9
                                    refine v_goto (pc := 443) C 448 (by decide) dL_law_443 ?_
                                    refine v_istore (pc := 448) C [(11, .int (iI (lw zs_18 10))), (10, .int (iI (lw y 4))), (9, .int (iI 0)), (12, .int (iI 1)), (0, .ref b), (1, .ref (adr L 0 0 0)), (2, .ref (adr L 14 0 0)), (3, .ref (adr L 15 0 0)), (4, .ref (adr L 16 0 0)), (5, .ref (adr L 17 0 0)), (6, .int (iI T)), (7, .int (iI x)), (8, .int (iI y))] (by decide) rfl dL_law_448 ?_
                                    refine v_lsub [4, 5, 6, 7, 8, 9, 10, 11, 12, 2, 1, 0] rfl ?_
                                    exact vs_lB hfl C h0 hcE hsE g b T x y 0 (lw y 4) (lw zs_18 10) hT hrx hry hJ (by unfold lwH; omega) hE kend
                        · skip
                          exfalso; omega
                      · skip
                        exfalso; omega
                    · skip
                      exfalso; omega
                  · skip
                    exfalso; omega
              · skip
                exfalso; omega
            · skip
              exfalso; omega
          · skip
            exfalso; omega
        · skip
          refine v_iconst (pc := 161) C dL_law_161 ?_
          refine v_goto (pc := 162) C 166 (by decide) dL_law_162 ?_
          refine v_istore (pc := 166) C [(9, .int (iI 3)), (0, .ref b), (1, .ref (adr L 0 0 0)), (2, .ref (adr L 14 0 0)), (3, .ref (adr L 15 0 0)), (4, .ref (adr L 16 0 0)), (5, .ref (adr L 17 0 0)), (6, .int (iI T)), (7, .int (iI x)), (8, .int (iI y))] (by decide) rfl dL_law_166 ?_
          refine v_iload (pc := 168) C 0 rfl dL_law_168 ?_
          refine v_iconst (pc := 170) C dL_law_170 ?_
          refine v_icmp_ge (pc := 171) C 183 ⟨by (first | assumption | omega | (unfold rg; omega)), by (first | assumption | omega | (unfold rg; omega))⟩ ⟨by (first | assumption | omega | (unfold rg; omega)), by (first | assumption | omega | (unfold rg; omega))⟩ (by decide) dL_law_171 (fun h171 => ?_) (fun h171 => ?_)
          · skip
            refine v_iload (pc := 183) C 0 rfl dL_law_183 ?_
            refine v_iconst (pc := 185) C dL_law_185 ?_
            refine v_icmp_ne (pc := 186) C 202 ⟨by (first | assumption | omega | (unfold rg; omega)), by (first | assumption | omega | (unfold rg; omega))⟩ ⟨by (first | assumption | omega | (unfold rg; omega)), by (first | assumption | omega | (unfold rg; omega))⟩ (by decide) dL_law_186 (fun h186 => ?_) (fun h186 => ?_)
            · skip
              refine v_iload (pc := 202) C 0 rfl dL_law_202 ?_
              refine v_iconst (pc := 204) C dL_law_204 ?_
              refine v_icmp_ne (pc := 205) C 217 ⟨by (first | assumption | omega | (unfold rg; omega)), by (first | assumption | omega | (unfold rg; omega))⟩ ⟨by (first | assumption | omega | (unfold rg; omega)), by (first | assumption | omega | (unfold rg; omega))⟩ (by decide) dL_law_205 (fun h205 => ?_) (fun h205 => ?_)
              · skip
                exfalso; omega
              · skip
                refine v_iload (pc := 208) C 9 rfl dL_law_208 ?_
                refine v_iconst (pc := 210) C dL_law_210 ?_
                refine v_calliS (pc := 211) C cw_RL_101 (ct_L_low l L g y 3 (by first | assumption | omega | (unfold rg; omega)) (by first | assumption | omega | (unfold rg; omega))) ⟨Nat.le_of_ble_eq_true rfl, Nat.le_of_ble_eq_true rfl⟩ rfl (Nat.le_of_ble_eq_true rfl) ⟨by show _ ≤ 714495; omega, by show _ ≤ 6957984; omega⟩ rfl dL_law_211 (fun r9 u9 hP_20 => ?_)
                have hlw211 := lw_in y (n := 3) (by omega)
                obtain ⟨hP_20, hP_20b⟩ := hP_20
                rw [hP_20, hP_20b]
                clear hP_20 hP_20b r9 u9
                refine v_goto (pc := 214) C 243 (by decide) dL_law_214 ?_
                refine v_istore (pc := 243) C [(10, .int (iI (lw y 3))), (9, .int (iI 3)), (0, .ref b), (1, .ref (adr L 0 0 0)), (2, .ref (adr L 14 0 0)), (3, .ref (adr L 15 0 0)), (4, .ref (adr L 16 0 0)), (5, .ref (adr L 17 0 0)), (6, .int (iI T)), (7, .int (iI x)), (8, .int (iI y))] (by decide) rfl dL_law_243 ?_
                refine v_iload (pc := 245) C 1 rfl dL_law_245 ?_
                refine v_if_ne (pc := 247) C 262 ⟨by (first | assumption | omega | (unfold rg; omega)), by (first | assumption | omega | (unfold rg; omega))⟩ (by decide) dL_law_247 (fun h247 => ?_) (fun h247 => ?_)
                · skip
                  refine v_iload (pc := 262) C 1 rfl dL_law_262 ?_
                  refine v_iconst (pc := 264) C dL_law_264 ?_
                  refine v_icmp_ne (pc := 265) C 283 ⟨by (first | assumption | omega | (unfold rg; omega)), by (first | assumption | omega | (unfold rg; omega))⟩ ⟨by (first | assumption | omega | (unfold rg; omega)), by (first | assumption | omega | (unfold rg; omega))⟩ (by decide) dL_law_265 (fun h265 => ?_) (fun h265 => ?_)
                  · skip
                    refine v_iload (pc := 283) C 1 rfl dL_law_283 ?_
                    refine v_iconst (pc := 285) C dL_law_285 ?_
                    refine v_icmp_ne (pc := 286) C 302 ⟨by (first | assumption | omega | (unfold rg; omega)), by (first | assumption | omega | (unfold rg; omega))⟩ ⟨by (first | assumption | omega | (unfold rg; omega)), by (first | assumption | omega | (unfold rg; omega))⟩ (by decide) dL_law_286 (fun h286 => ?_) (fun h286 => ?_)
                    · skip
                      refine v_iload (pc := 302) C 1 rfl dL_law_302 ?_
                      refine v_iconst (pc := 304) C dL_law_304 ?_
                      refine v_icmp_ne (pc := 305) C 360 ⟨by (first | assumption | omega | (unfold rg; omega)), by (first | assumption | omega | (unfold rg; omega))⟩ ⟨by (first | assumption | omega | (unfold rg; omega)), by (first | assumption | omega | (unfold rg; omega))⟩ (by decide) dL_law_305 (fun h305 => ?_) (fun h305 => ?_)
                      · skip
                        exfalso; omega
                      · skip
                        refine v_iload (pc := 308) C 0 rfl dL_law_308 ?_
                        refine v_if_ne (pc := 310) C 328 ⟨by (first | assumption | omega | (unfold rg; omega)), by (first | assumption | omega | (unfold rg; omega))⟩ (by decide) dL_law_310 (fun h310 => ?_) (fun h310 => ?_)
                        · skip
                          refine v_iload (pc := 328) C 0 rfl dL_law_328 ?_
                          refine v_iconst (pc := 330) C dL_law_330 ?_
                          refine v_icmp_ne (pc := 331) C 348 ⟨by (first | assumption | omega | (unfold rg; omega)), by (first | assumption | omega | (unfold rg; omega))⟩ ⟨by (first | assumption | omega | (unfold rg; omega)), by (first | assumption | omega | (unfold rg; omega))⟩ (by decide) dL_law_331 (fun h331 => ?_) (fun h331 => ?_)
                          · skip
                            refine v_iload (pc := 348) C 10 rfl dL_law_348 ?_
                            refine v_iconst (pc := 350) C dL_law_350 ?_
                            refine v_ishrz (pc := 351) C dL_law_351 (fun zs_21 hzs_21 => ?_)
                            refine v_bipush (pc := 352) C rfl dL_law_352 ?_
                            refine v_calliS (pc := 354) C cw_RL_101 (ct_L_low l L g zs_21 6 (by first | assumption | omega | (unfold rg; omega)) (by first | assumption | omega | (unfold rg; omega))) ⟨Nat.le_of_ble_eq_true rfl, Nat.le_of_ble_eq_true rfl⟩ rfl (Nat.le_of_ble_eq_true rfl) ⟨by show _ ≤ 714495; omega, by show _ ≤ 6957984; omega⟩ rfl dL_law_354 (fun r9 u9 hP_22 => ?_)
                            have hlw354 := lw_in zs_21 (n := 6) (by omega)
                            obtain ⟨hP_22, hP_22b⟩ := hP_22
                            rw [hP_22, hP_22b]
                            clear hP_22 hP_22b r9 u9
                            refine v_goto (pc := 357) C 361 (by decide) dL_law_357 ?_
                            refine v_istore (pc := 361) C [(11, .int (iI (lw zs_21 6))), (10, .int (iI (lw y 3))), (9, .int (iI 3)), (0, .ref b), (1, .ref (adr L 0 0 0)), (2, .ref (adr L 14 0 0)), (3, .ref (adr L 15 0 0)), (4, .ref (adr L 16 0 0)), (5, .ref (adr L 17 0 0)), (6, .int (iI T)), (7, .int (iI x)), (8, .int (iI y))] (by decide) rfl dL_law_361 ?_
                            refine v_iload (pc := 363) C 10 rfl dL_law_363 ?_
                            refine v_bipush (pc := 365) C rfl dL_law_365 ?_
                            refine v_ishrz (pc := 367) C dL_law_367 (fun zs_23 hzs_23 => ?_)
                            refine v_iconst (pc := 368) C dL_law_368 ?_
                            refine v_calliS (pc := 369) C cw_RL_101 (ct_L_low l L g zs_23 3 (by first | assumption | omega | (unfold rg; omega)) (by first | assumption | omega | (unfold rg; omega))) ⟨Nat.le_of_ble_eq_true rfl, Nat.le_of_ble_eq_true rfl⟩ rfl (Nat.le_of_ble_eq_true rfl) ⟨by show _ ≤ 714495; omega, by show _ ≤ 6957984; omega⟩ rfl dL_law_369 (fun r9 u9 hP_24 => ?_)
                            have hlw369 := lw_in zs_23 (n := 3) (by omega)
                            obtain ⟨hP_24, hP_24b⟩ := hP_24
                            rw [hP_24, hP_24b]
                            clear hP_24 hP_24b r9 u9
                            refine v_if_ne (pc := 372) C 392 ⟨by (first | assumption | omega | (unfold rg; omega)), by (first | assumption | omega | (unfold rg; omega))⟩ (by decide) dL_law_372 (fun h372 => ?_) (fun h372 => ?_)
                            · skip
                              refine v_iconst (pc := 392) C dL_law_392 ?_
                              refine v_istore (pc := 393) C [(12, .int (iI 0)), (11, .int (iI (lw zs_21 6))), (10, .int (iI (lw y 3))), (9, .int (iI 3)), (0, .ref b), (1, .ref (adr L 0 0 0)), (2, .ref (adr L 14 0 0)), (3, .ref (adr L 15 0 0)), (4, .ref (adr L 16 0 0)), (5, .ref (adr L 17 0 0)), (6, .int (iI T)), (7, .int (iI x)), (8, .int (iI y))] (by decide) rfl dL_law_393 ?_
                              refine v_iload (pc := 395) C 0 rfl dL_law_395 ?_
                              refine v_iconst (pc := 397) C dL_law_397 ?_
                              refine v_icmp_ne (pc := 398) C 405 ⟨by (first | assumption | omega | (unfold rg; omega)), by (first | assumption | omega | (unfold rg; omega))⟩ ⟨by (first | assumption | omega | (unfold rg; omega)), by (first | assumption | omega | (unfold rg; omega))⟩ (by decide) dL_law_398 (fun h398 => ?_) (fun h398 => ?_)
                              · skip
                                refine v_iload (pc := 405) C 3 rfl dL_law_405 ?_
                                refine v_istore (pc := 407) C [(9, .int (iI 3)), (12, .int (iI 0)), (11, .int (iI (lw zs_21 6))), (10, .int (iI (lw y 3))), (0, .ref b), (1, .ref (adr L 0 0 0)), (2, .ref (adr L 14 0 0)), (3, .ref (adr L 15 0 0)), (4, .ref (adr L 16 0 0)), (5, .ref (adr L 17 0 0)), (6, .int (iI T)), (7, .int (iI x)), (8, .int (iI y))] (by decide) rfl dL_law_407 ?_
                                refine v_iload (pc := 409) C 1 rfl dL_law_409 ?_
                                refine v_iconst (pc := 411) C dL_law_411 ?_
                                refine v_icmp_ne (pc := 412) C 424 ⟨by (first | assumption | omega | (unfold rg; omega)), by (first | assumption | omega | (unfold rg; omega))⟩ ⟨by (first | assumption | omega | (unfold rg; omega)), by (first | assumption | omega | (unfold rg; omega))⟩ (by decide) dL_law_412 (fun h412 => ?_) (fun h412 => ?_)
                                · skip
                                  refine v_iload (pc := 424) C 3 rfl dL_law_424 ?_
                                  refine v_istore (pc := 426) C [(10, .int (iI (lw y 3))), (9, .int (iI 3)), (12, .int (iI 0)), (11, .int (iI (lw zs_21 6))), (0, .ref b), (1, .ref (adr L 0 0 0)), (2, .ref (adr L 14 0 0)), (3, .ref (adr L 15 0 0)), (4, .ref (adr L 16 0 0)), (5, .ref (adr L 17 0 0)), (6, .int (iI T)), (7, .int (iI x)), (8, .int (iI y))] (by decide) rfl dL_law_426 ?_
                                  refine v_iload (pc := 428) C 2 rfl dL_law_428 ?_
                                  refine v_iconst (pc := 430) C dL_law_430 ?_
                                  refine v_icmp_ne (pc := 431) C 446 ⟨by (first | assumption | omega | (unfold rg; omega)), by (first | assumption | omega | (unfold rg; omega))⟩ ⟨by (first | assumption | omega | (unfold rg; omega)), by (first | assumption | omega | (unfold rg; omega))⟩ (by decide) dL_law_431 (fun h431 => ?_) (fun h431 => ?_)
                                  · skip
                                    refine v_iload (pc := 446) C 3 rfl dL_law_446 ?_
                                    refine v_istore (pc := 448) C [(11, .int (iI (lw zs_21 6))), (10, .int (iI (lw y 3))), (9, .int (iI 3)), (12, .int (iI 0)), (0, .ref b), (1, .ref (adr L 0 0 0)), (2, .ref (adr L 14 0 0)), (3, .ref (adr L 15 0 0)), (4, .ref (adr L 16 0 0)), (5, .ref (adr L 17 0 0)), (6, .int (iI T)), (7, .int (iI x)), (8, .int (iI y))] (by decide) rfl dL_law_448 ?_
                                    refine v_lsub [4, 5, 6, 7, 8, 9, 10, 11, 12, 2, 1, 0] rfl ?_
                                    exact vs_lB hfl C h0 hcE hsE g b T x y 3 (lw y 3) (lw zs_21 6) hT hrx hry hJ (by unfold lwH; omega) hE kend
                                  · skip
                                    exfalso; omega
                                · skip
                                  exfalso; omega
                              · skip
                                exfalso; omega
                            · skip
                              refine v_aload_n (pc := 375) C 4 rfl rfl dL_law_375 ?_
                              refine v_iload (pc := 376) C 11 rfl dL_law_376 ?_
                              refine v_iconst (pc := 378) C dL_law_378 ?_
                              refine v_calliS (pc := 379) C cw_RL_101 (ct_L_low l L g y 4 (by first | assumption | omega | (unfold rg; omega)) (by first | assumption | omega | (unfold rg; omega))) ⟨Nat.le_of_ble_eq_true rfl, Nat.le_of_ble_eq_true rfl⟩ rfl (Nat.le_of_ble_eq_true rfl) ⟨by show _ ≤ 714495; omega, by show _ ≤ 6957984; omega⟩ rfl dL_law_379 (fun r9 u9 hP_25 => ?_)
                              have hlw379 := lw_in y (n := 4) (by omega)
                              obtain ⟨hP_25, hP_25b⟩ := hP_25
                              rw [hP_25, hP_25b]
                              clear hP_25 hP_25b r9 u9
                              refine v_calliH (pc := 382) C cwh_L_callIn (ct_L_callIn l L g (lw y 4) (by omega) (by exact hK.2.1)) ⟨Nat.le_of_ble_eq_true rfl, Nat.le_of_ble_eq_true rfl⟩ rfl (Nat.le_of_ble_eq_true rfl) ⟨by show _ ≤ 714495; omega, by show _ ≤ 6957984; omega⟩ rfl dL_law_382 (fun r9 u9 hP_26 => ?_)
                              obtain ⟨hP_26, hP_26b⟩ := hP_26
                              rw [hP_26, hP_26b]
                              clear hP_26 hP_26b r9 u9
                              refine v_topi (b := mBw (em g) (lw y 4)) C (ci_tie hK.2.2.2.1.1 ⟨by omega, by omega⟩) ?_
                              have hmb : -1 ≤ mBw (em g) (lw y 4) ∧ mBw (em g) (lw y 4) ≤ 61 := by (unfold mBw; have := frst_in (mMB (em g) (lw y 4)) 61 0 (by decide); omega)
                              refine v_if_ne (pc := 385) C 392 ⟨by (first | assumption | omega | (unfold rg; omega)), by (first | assumption | omega | (unfold rg; omega))⟩ (by decide) dL_law_385 (fun h385 => ?_) (fun h385 => ?_)
                              · skip
                                refine v_iconst (pc := 392) C dL_law_392 ?_
                                refine v_istore (pc := 393) C [(12, .int (iI 0)), (11, .int (iI (lw zs_21 6))), (10, .int (iI (lw y 3))), (9, .int (iI 3)), (0, .ref b), (1, .ref (adr L 0 0 0)), (2, .ref (adr L 14 0 0)), (3, .ref (adr L 15 0 0)), (4, .ref (adr L 16 0 0)), (5, .ref (adr L 17 0 0)), (6, .int (iI T)), (7, .int (iI x)), (8, .int (iI y))] (by decide) rfl dL_law_393 ?_
                                refine v_iload (pc := 395) C 0 rfl dL_law_395 ?_
                                refine v_iconst (pc := 397) C dL_law_397 ?_
                                refine v_icmp_ne (pc := 398) C 405 ⟨by (first | assumption | omega | (unfold rg; omega)), by (first | assumption | omega | (unfold rg; omega))⟩ ⟨by (first | assumption | omega | (unfold rg; omega)), by (first | assumption | omega | (unfold rg; omega))⟩ (by decide) dL_law_398 (fun h398 => ?_) (fun h398 => ?_)
                                · skip
                                  refine v_iload (pc := 405) C 3 rfl dL_law_405 ?_
                                  refine v_istore (pc := 407) C [(9, .int (iI 3)), (12, .int (iI 0)), (11, .int (iI (lw zs_21 6))), (10, .int (iI (lw y 3))), (0, .ref b), (1, .ref (adr L 0 0 0)), (2, .ref (adr L 14 0 0)), (3, .ref (adr L 15 0 0)), (4, .ref (adr L 16 0 0)), (5, .ref (adr L 17 0 0)), (6, .int (iI T)), (7, .int (iI x)), (8, .int (iI y))] (by decide) rfl dL_law_407 ?_
                                  refine v_iload (pc := 409) C 1 rfl dL_law_409 ?_
                                  refine v_iconst (pc := 411) C dL_law_411 ?_
                                  refine v_icmp_ne (pc := 412) C 424 ⟨by (first | assumption | omega | (unfold rg; omega)), by (first | assumption | omega | (unfold rg; omega))⟩ ⟨by (first | assumption | omega | (unfold rg; omega)), by (first | assumption | omega | (unfold rg; omega))⟩ (by decide) dL_law_412 (fun h412 => ?_) (fun h412 => ?_)
                                  · skip
                                    refine v_iload (pc := 424) C 3 rfl dL_law_424 ?_
                                    refine v_istore (pc := 426) C [(10, .int (iI (lw y 3))), (9, .int (iI 3)), (12, .int (iI 0)), (11, .int (iI (lw zs_21 6))), (0, .ref b), (1, .ref (adr L 0 0 0)), (2, .ref (adr L 14 0 0)), (3, .ref (adr L 15 0 0)), (4, .ref (adr L 16 0 0)), (5, .ref (adr L 17 0 0)), (6, .int (iI T)), (7, .int (iI x)), (8, .int (iI y))] (by decide) rfl dL_law_426 ?_
                                    refine v_iload (pc := 428) C 2 rfl dL_law_428 ?_
                                    refine v_iconst (pc := 430) C dL_law_430 ?_
                                    refine v_icmp_ne (pc := 431) C 446 ⟨by (first | assumption | omega | (unfold rg; omega)), by (first | assumption | omega | (unfold rg; omega))⟩ ⟨by (first | assumption | omega | (unfold rg; omega)), by (first | assumption | omega | (unfold rg; omega))⟩ (by decide) dL_law_431 (fun h431 => ?_) (fun h431 => ?_)
                                    · skip
                                      refine v_iload (pc := 446) C 3 rfl dL_law_446 ?_
                                      refine v_istore (pc := 448) C [(11, .int (iI (lw zs_21 6))), (10, .int (iI (lw y 3))), (9, .int (iI 3)), (12, .int (iI 0)), (0, .ref b), (1, .ref (adr L 0 0 0)), (2, .ref (adr L 14 0 0)), (3, .ref (adr L 15 0 0)), (4, .ref (adr L 16 0 0)), (5, .ref (adr L 17 0 0)), (6, .int (iI T)), (7, .int (iI x)), (8, .int (iI y))] (by decide) rfl dL_law_448 ?_
                                      refine v_lsub [4, 5, 6, 7, 8, 9, 10, 11, 12, 2, 1, 0] rfl ?_
                                      exact vs_lB hfl C h0 hcE hsE g b T x y 3 (lw y 3) (lw zs_21 6) hT hrx hry hJ (by unfold lwH; omega) hE kend
                                    · skip
                                      exfalso; omega
                                  · skip
                                    exfalso; omega
                                · skip
                                  exfalso; omega
                              · skip
                                refine v_iconst (pc := 388) C dL_law_388 ?_
                                refine v_goto (pc := 389) C 393 (by decide) dL_law_389 ?_
                                refine v_istore (pc := 393) C [(12, .int (iI 1)), (11, .int (iI (lw zs_21 6))), (10, .int (iI (lw y 3))), (9, .int (iI 3)), (0, .ref b), (1, .ref (adr L 0 0 0)), (2, .ref (adr L 14 0 0)), (3, .ref (adr L 15 0 0)), (4, .ref (adr L 16 0 0)), (5, .ref (adr L 17 0 0)), (6, .int (iI T)), (7, .int (iI x)), (8, .int (iI y))] (by decide) rfl dL_law_393 ?_
                                refine v_iload (pc := 395) C 0 rfl dL_law_395 ?_
                                refine v_iconst (pc := 397) C dL_law_397 ?_
                                refine v_icmp_ne (pc := 398) C 405 ⟨by (first | assumption | omega | (unfold rg; omega)), by (first | assumption | omega | (unfold rg; omega))⟩ ⟨by (first | assumption | omega | (unfold rg; omega)), by (first | assumption | omega | (unfold rg; omega))⟩ (by decide) dL_law_398 (fun h398 => ?_) (fun h398 => ?_)
                                · skip
                                  exfalso; omega
                                · skip
                                  refine v_iconst (pc := 401) C dL_law_401 ?_
                                  refine v_goto (pc := 402) C 407 (by decide) dL_law_402 ?_
                                  refine v_istore (pc := 407) C [(9, .int (iI 0)), (12, .int (iI 1)), (11, .int (iI (lw zs_21 6))), (10, .int (iI (lw y 3))), (0, .ref b), (1, .ref (adr L 0 0 0)), (2, .ref (adr L 14 0 0)), (3, .ref (adr L 15 0 0)), (4, .ref (adr L 16 0 0)), (5, .ref (adr L 17 0 0)), (6, .int (iI T)), (7, .int (iI x)), (8, .int (iI y))] (by decide) rfl dL_law_407 ?_
                                  refine v_iload (pc := 409) C 1 rfl dL_law_409 ?_
                                  refine v_iconst (pc := 411) C dL_law_411 ?_
                                  refine v_icmp_ne (pc := 412) C 424 ⟨by (first | assumption | omega | (unfold rg; omega)), by (first | assumption | omega | (unfold rg; omega))⟩ ⟨by (first | assumption | omega | (unfold rg; omega)), by (first | assumption | omega | (unfold rg; omega))⟩ (by decide) dL_law_412 (fun h412 => ?_) (fun h412 => ?_)
                                  · skip
                                    exfalso; omega
                                  · skip
                                    refine v_iload (pc := 415) C 12 rfl dL_law_415 ?_
                                    refine v_iconst (pc := 417) C dL_law_417 ?_
                                    refine v_calliS (pc := 418) C cw_RL_101 (ct_L_low l L g y 4 (by first | assumption | omega | (unfold rg; omega)) (by first | assumption | omega | (unfold rg; omega))) ⟨Nat.le_of_ble_eq_true rfl, Nat.le_of_ble_eq_true rfl⟩ rfl (Nat.le_of_ble_eq_true rfl) ⟨by show _ ≤ 714495; omega, by show _ ≤ 6957984; omega⟩ rfl dL_law_418 (fun r9 u9 hP_27 => ?_)
                                    have hlw418 := lw_in y (n := 4) (by omega)
                                    obtain ⟨hP_27, hP_27b⟩ := hP_27
                                    rw [hP_27, hP_27b]
                                    clear hP_27 hP_27b r9 u9
                                    refine v_goto (pc := 421) C 426 (by decide) dL_law_421 ?_
                                    refine v_istore (pc := 426) C [(10, .int (iI (lw y 4))), (9, .int (iI 0)), (12, .int (iI 1)), (11, .int (iI (lw zs_21 6))), (0, .ref b), (1, .ref (adr L 0 0 0)), (2, .ref (adr L 14 0 0)), (3, .ref (adr L 15 0 0)), (4, .ref (adr L 16 0 0)), (5, .ref (adr L 17 0 0)), (6, .int (iI T)), (7, .int (iI x)), (8, .int (iI y))] (by decide) rfl dL_law_426 ?_
                                    refine v_iload (pc := 428) C 2 rfl dL_law_428 ?_
                                    refine v_iconst (pc := 430) C dL_law_430 ?_
                                    refine v_icmp_ne (pc := 431) C 446 ⟨by (first | assumption | omega | (unfold rg; omega)), by (first | assumption | omega | (unfold rg; omega))⟩ ⟨by (first | assumption | omega | (unfold rg; omega)), by (first | assumption | omega | (unfold rg; omega))⟩ (by decide) dL_law_431 (fun h431 => ?_) (fun h431 => ?_)
                                    · skip
                                      exfalso; omega
                                    · skip
                                      refine v_iload (pc := 434) C 12 rfl dL_law_434 ?_
                                      refine v_iconst (pc := 436) C dL_law_436 ?_
                                      refine v_ishrz (pc := 437) C dL_law_437 (fun zs_28 hzs_28 => ?_)
                                      refine v_bipush (pc := 438) C rfl dL_law_438 ?_
                                      refine v_calliS (pc := 440) C cw_RL_101 (ct_L_low l L g zs_28 10 (by first | assumption | omega | (unfold rg; omega)) (by first | assumption | omega | (unfold rg; omega))) ⟨Nat.le_of_ble_eq_true rfl, Nat.le_of_ble_eq_true rfl⟩ rfl (Nat.le_of_ble_eq_true rfl) ⟨by show _ ≤ 714495; omega, by show _ ≤ 6957984; omega⟩ rfl dL_law_440 (fun r9 u9 hP_29 => ?_)
                                      have hlw440 := lw_in zs_28 (n := 10) (by omega)
                                      obtain ⟨hP_29, hP_29b⟩ := hP_29
                                      rw [hP_29, hP_29b]
                                      clear hP_29 hP_29b r9 u9
                                      refine v_goto (pc := 443) C 448 (by decide) dL_law_443 ?_
                                      refine v_istore (pc := 448) C [(11, .int (iI (lw zs_28 10))), (10, .int (iI (lw y 4))), (9, .int (iI 0)), (12, .int (iI 1)), (0, .ref b), (1, .ref (adr L 0 0 0)), (2, .ref (adr L 14 0 0)), (3, .ref (adr L 15 0 0)), (4, .ref (adr L 16 0 0)), (5, .ref (adr L 17 0 0)), (6, .int (iI T)), (7, .int (iI x)), (8, .int (iI y))] (by decide) rfl dL_law_448 ?_
                                      refine v_lsub [4, 5, 6, 7, 8, 9, 10, 11, 12, 2, 1, 0] rfl ?_
                                      exact vs_lB hfl C h0 hcE hsE g b T x y 0 (lw y 4) (lw zs_28 10) hT hrx hry hJ (by unfold lwH; omega) hE kend
                          · skip
                            refine v_iconst (pc := 334) C dL_law_334 ?_
                            refine v_iload (pc := 335) C 10 rfl dL_law_335 ?_
                            refine v_iconst (pc := 337) C dL_law_337 ?_
                            refine v_ishrz (pc := 338) C dL_law_338 (fun zs_30 hzs_30 => ?_)
                            refine v_bipush (pc := 339) C rfl dL_law_339 ?_
                            refine v_calliS (pc := 341) C cw_RL_101 (ct_L_low l L g zs_30 9 (by first | assumption | omega | (unfold rg; omega)) (by first | assumption | omega | (unfold rg; omega))) ⟨Nat.le_of_ble_eq_true rfl, Nat.le_of_ble_eq_true rfl⟩ rfl (Nat.le_of_ble_eq_true rfl) ⟨by show _ ≤ 714495; omega, by show _ ≤ 6957984; omega⟩ rfl dL_law_341 (fun r9 u9 hP_31 => ?_)
                            have hlw341 := lw_in zs_30 (n := 9) (by omega)
                            obtain ⟨hP_31, hP_31b⟩ := hP_31
                            rw [hP_31, hP_31b]
                            clear hP_31 hP_31b r9 u9
                            refine v_iadd (pc := 344) C dL_law_344 ?_
                            refine v_goto (pc := 345) C 361 (by decide) dL_law_345 ?_
                            refine v_istore (pc := 361) C [(11, .int (iI (1 + (lw zs_30 9)))), (10, .int (iI (lw y 3))), (9, .int (iI 3)), (0, .ref b), (1, .ref (adr L 0 0 0)), (2, .ref (adr L 14 0 0)), (3, .ref (adr L 15 0 0)), (4, .ref (adr L 16 0 0)), (5, .ref (adr L 17 0 0)), (6, .int (iI T)), (7, .int (iI x)), (8, .int (iI y))] (by decide) rfl dL_law_361 ?_
                            refine v_iload (pc := 363) C 10 rfl dL_law_363 ?_
                            refine v_bipush (pc := 365) C rfl dL_law_365 ?_
                            refine v_ishrz (pc := 367) C dL_law_367 (fun zs_32 hzs_32 => ?_)
                            refine v_iconst (pc := 368) C dL_law_368 ?_
                            refine v_calliS (pc := 369) C cw_RL_101 (ct_L_low l L g zs_32 3 (by first | assumption | omega | (unfold rg; omega)) (by first | assumption | omega | (unfold rg; omega))) ⟨Nat.le_of_ble_eq_true rfl, Nat.le_of_ble_eq_true rfl⟩ rfl (Nat.le_of_ble_eq_true rfl) ⟨by show _ ≤ 714495; omega, by show _ ≤ 6957984; omega⟩ rfl dL_law_369 (fun r9 u9 hP_33 => ?_)
                            have hlw369 := lw_in zs_32 (n := 3) (by omega)
                            obtain ⟨hP_33, hP_33b⟩ := hP_33
                            rw [hP_33, hP_33b]
                            clear hP_33 hP_33b r9 u9
                            refine v_if_ne (pc := 372) C 392 ⟨by (first | assumption | omega | (unfold rg; omega)), by (first | assumption | omega | (unfold rg; omega))⟩ (by decide) dL_law_372 (fun h372 => ?_) (fun h372 => ?_)
                            · skip
                              refine v_iconst (pc := 392) C dL_law_392 ?_
                              refine v_istore (pc := 393) C [(12, .int (iI 0)), (11, .int (iI (1 + (lw zs_30 9)))), (10, .int (iI (lw y 3))), (9, .int (iI 3)), (0, .ref b), (1, .ref (adr L 0 0 0)), (2, .ref (adr L 14 0 0)), (3, .ref (adr L 15 0 0)), (4, .ref (adr L 16 0 0)), (5, .ref (adr L 17 0 0)), (6, .int (iI T)), (7, .int (iI x)), (8, .int (iI y))] (by decide) rfl dL_law_393 ?_
                              refine v_iload (pc := 395) C 0 rfl dL_law_395 ?_
                              refine v_iconst (pc := 397) C dL_law_397 ?_
                              refine v_icmp_ne (pc := 398) C 405 ⟨by (first | assumption | omega | (unfold rg; omega)), by (first | assumption | omega | (unfold rg; omega))⟩ ⟨by (first | assumption | omega | (unfold rg; omega)), by (first | assumption | omega | (unfold rg; omega))⟩ (by decide) dL_law_398 (fun h398 => ?_) (fun h398 => ?_)
                              · skip
                                refine v_iload (pc := 405) C 3 rfl dL_law_405 ?_
                                refine v_istore (pc := 407) C [(9, .int (iI 3)), (12, .int (iI 0)), (11, .int (iI (1 + (lw zs_30 9)))), (10, .int (iI (lw y 3))), (0, .ref b), (1, .ref (adr L 0 0 0)), (2, .ref (adr L 14 0 0)), (3, .ref (adr L 15 0 0)), (4, .ref (adr L 16 0 0)), (5, .ref (adr L 17 0 0)), (6, .int (iI T)), (7, .int (iI x)), (8, .int (iI y))] (by decide) rfl dL_law_407 ?_
                                refine v_iload (pc := 409) C 1 rfl dL_law_409 ?_
                                refine v_iconst (pc := 411) C dL_law_411 ?_
                                refine v_icmp_ne (pc := 412) C 424 ⟨by (first | assumption | omega | (unfold rg; omega)), by (first | assumption | omega | (unfold rg; omega))⟩ ⟨by (first | assumption | omega | (unfold rg; omega)), by (first | assumption | omega | (unfold rg; omega))⟩ (by decide) dL_law_412 (fun h412 => ?_) (fun h412 => ?_)
                                · skip
                                  refine v_iload (pc := 424) C 3 rfl dL_law_424 ?_
                                  refine v_istore (pc := 426) C [(10, .int (iI (lw y 3))), (9, .int (iI 3)), (12, .int (iI 0)), (11, .int (iI (1 + (lw zs_30 9)))), (0, .ref b), (1, .ref (adr L 0 0 0)), (2, .ref (adr L 14 0 0)), (3, .ref (adr L 15 0 0)), (4, .ref (adr L 16 0 0)), (5, .ref (adr L 17 0 0)), (6, .int (iI T)), (7, .int (iI x)), (8, .int (iI y))] (by decide) rfl dL_law_426 ?_
                                  refine v_iload (pc := 428) C 2 rfl dL_law_428 ?_
                                  refine v_iconst (pc := 430) C dL_law_430 ?_
                                  refine v_icmp_ne (pc := 431) C 446 ⟨by (first | assumption | omega | (unfold rg; omega)), by (first | assumption | omega | (unfold rg; omega))⟩ ⟨by (first | assumption | omega | (unfold rg; omega)), by (first | assumption | omega | (unfold rg; omega))⟩ (by decide) dL_law_431 (fun h431 => ?_) (fun h431 => ?_)
                                  · skip
                                    refine v_iload (pc := 446) C 3 rfl dL_law_446 ?_
                                    refine v_istore (pc := 448) C [(11, .int (iI (1 + (lw zs_30 9)))), (10, .int (iI (lw y 3))), (9, .int (iI 3)), (12, .int (iI 0)), (0, .ref b), (1, .ref (adr L 0 0 0)), (2, .ref (adr L 14 0 0)), (3, .ref (adr L 15 0 0)), (4, .ref (adr L 16 0 0)), (5, .ref (adr L 17 0 0)), (6, .int (iI T)), (7, .int (iI x)), (8, .int (iI y))] (by decide) rfl dL_law_448 ?_
                                    refine v_lsub [4, 5, 6, 7, 8, 9, 10, 11, 12, 2, 1, 0] rfl ?_
                                    exact vs_lB hfl C h0 hcE hsE g b T x y 3 (lw y 3) (1 + (lw zs_30 9)) hT hrx hry hJ (by unfold lwH; omega) hE kend
                                  · skip
                                    exfalso; omega
                                · skip
                                  exfalso; omega
                              · skip
                                exfalso; omega
                            · skip
                              refine v_aload_n (pc := 375) C 4 rfl rfl dL_law_375 ?_
                              refine v_iload (pc := 376) C 11 rfl dL_law_376 ?_
                              refine v_iconst (pc := 378) C dL_law_378 ?_
                              refine v_calliS (pc := 379) C cw_RL_101 (ct_L_low l L g y 4 (by first | assumption | omega | (unfold rg; omega)) (by first | assumption | omega | (unfold rg; omega))) ⟨Nat.le_of_ble_eq_true rfl, Nat.le_of_ble_eq_true rfl⟩ rfl (Nat.le_of_ble_eq_true rfl) ⟨by show _ ≤ 714495; omega, by show _ ≤ 6957984; omega⟩ rfl dL_law_379 (fun r9 u9 hP_34 => ?_)
                              have hlw379 := lw_in y (n := 4) (by omega)
                              obtain ⟨hP_34, hP_34b⟩ := hP_34
                              rw [hP_34, hP_34b]
                              clear hP_34 hP_34b r9 u9
                              refine v_calliH (pc := 382) C cwh_L_callIn (ct_L_callIn l L g (lw y 4) (by omega) (by exact hK.2.1)) ⟨Nat.le_of_ble_eq_true rfl, Nat.le_of_ble_eq_true rfl⟩ rfl (Nat.le_of_ble_eq_true rfl) ⟨by show _ ≤ 714495; omega, by show _ ≤ 6957984; omega⟩ rfl dL_law_382 (fun r9 u9 hP_35 => ?_)
                              obtain ⟨hP_35, hP_35b⟩ := hP_35
                              rw [hP_35, hP_35b]
                              clear hP_35 hP_35b r9 u9
                              refine v_topi (b := mBw (em g) (lw y 4)) C (ci_tie hK.2.2.2.1.1 ⟨by omega, by omega⟩) ?_
                              have hmb : -1 ≤ mBw (em g) (lw y 4) ∧ mBw (em g) (lw y 4) ≤ 61 := by (unfold mBw; have := frst_in (mMB (em g) (lw y 4)) 61 0 (by decide); omega)
                              refine v_if_ne (pc := 385) C 392 ⟨by (first | assumption | omega | (unfold rg; omega)), by (first | assumption | omega | (unfold rg; omega))⟩ (by decide) dL_law_385 (fun h385 => ?_) (fun h385 => ?_)
                              · skip
                                refine v_iconst (pc := 392) C dL_law_392 ?_
                                refine v_istore (pc := 393) C [(12, .int (iI 0)), (11, .int (iI (1 + (lw zs_30 9)))), (10, .int (iI (lw y 3))), (9, .int (iI 3)), (0, .ref b), (1, .ref (adr L 0 0 0)), (2, .ref (adr L 14 0 0)), (3, .ref (adr L 15 0 0)), (4, .ref (adr L 16 0 0)), (5, .ref (adr L 17 0 0)), (6, .int (iI T)), (7, .int (iI x)), (8, .int (iI y))] (by decide) rfl dL_law_393 ?_
                                refine v_iload (pc := 395) C 0 rfl dL_law_395 ?_
                                refine v_iconst (pc := 397) C dL_law_397 ?_
                                refine v_icmp_ne (pc := 398) C 405 ⟨by (first | assumption | omega | (unfold rg; omega)), by (first | assumption | omega | (unfold rg; omega))⟩ ⟨by (first | assumption | omega | (unfold rg; omega)), by (first | assumption | omega | (unfold rg; omega))⟩ (by decide) dL_law_398 (fun h398 => ?_) (fun h398 => ?_)
                                · skip
                                  refine v_iload (pc := 405) C 3 rfl dL_law_405 ?_
                                  refine v_istore (pc := 407) C [(9, .int (iI 3)), (12, .int (iI 0)), (11, .int (iI (1 + (lw zs_30 9)))), (10, .int (iI (lw y 3))), (0, .ref b), (1, .ref (adr L 0 0 0)), (2, .ref (adr L 14 0 0)), (3, .ref (adr L 15 0 0)), (4, .ref (adr L 16 0 0)), (5, .ref (adr L 17 0 0)), (6, .int (iI T)), (7, .int (iI x)), (8, .int (iI y))] (by decide) rfl dL_law_407 ?_
                                  refine v_iload (pc := 409) C 1 rfl dL_law_409 ?_
                                  refine v_iconst (pc := 411) C dL_law_411 ?_
                                  refine v_icmp_ne (pc := 412) C 424 ⟨by (first | assumption | omega | (unfold rg; omega)), by (first | assumption | omega | (unfold rg; omega))⟩ ⟨by (first | assumption | omega | (unfold rg; omega)), by (first | assumption | omega | (unfold rg; omega))⟩ (by decide) dL_law_412 (fun h412 => ?_) (fun h412 => ?_)
                                  · skip
                                    refine v_iload (pc := 424) C 3 rfl dL_law_424 ?_
                                    refine v_istore (pc := 426) C [(10, .int (iI (lw y 3))), (9, .int (iI 3)), (12, .int (iI 0)), (11, .int (iI (1 + (lw zs_30 9)))), (0, .ref b), (1, .ref (adr L 0 0 0)), (2, .ref (adr L 14 0 0)), (3, .ref (adr L 15 0 0)), (4, .ref (adr L 16 0 0)), (5, .ref (adr L 17 0 0)), (6, .int (iI T)), (7, .int (iI x)), (8, .int (iI y))] (by decide) rfl dL_law_426 ?_
                                    refine v_iload (pc := 428) C 2 rfl dL_law_428 ?_
                                    refine v_iconst (pc := 430) C dL_law_430 ?_
                                    refine v_icmp_ne (pc := 431) C 446 ⟨by (first | assumption | omega | (unfold rg; omega)), by (first | assumption | omega | (unfold rg; omega))⟩ ⟨by (first | assumption | omega | (unfold rg; omega)), by (first | assumption | omega | (unfold rg; omega))⟩ (by decide) dL_law_431 (fun h431 => ?_) (fun h431 => ?_)
                                    · skip
                                      refine v_iload (pc := 446) C 3 rfl dL_law_446 ?_
                                      refine v_istore (pc := 448) C [(11, .int (iI (1 + (lw zs_30 9)))), (10, .int (iI (lw y 3))), (9, .int (iI 3)), (12, .int (iI 0)), (0, .ref b), (1, .ref (adr L 0 0 0)), (2, .ref (adr L 14 0 0)), (3, .ref (adr L 15 0 0)), (4, .ref (adr L 16 0 0)), (5, .ref (adr L 17 0 0)), (6, .int (iI T)), (7, .int (iI x)), (8, .int (iI y))] (by decide) rfl dL_law_448 ?_
                                      refine v_lsub [4, 5, 6, 7, 8, 9, 10, 11, 12, 2, 1, 0] rfl ?_
                                      exact vs_lB hfl C h0 hcE hsE g b T x y 3 (lw y 3) (1 + (lw zs_30 9)) hT hrx hry hJ (by unfold lwH; omega) hE kend
                                    · skip
                                      exfalso; omega
                                  · skip
                                    exfalso; omega
                                · skip
                                  exfalso; omega
                              · skip
                                refine v_iconst (pc := 388) C dL_law_388 ?_
                                refine v_goto (pc := 389) C 393 (by decide) dL_law_389 ?_
                                refine v_istore (pc := 393) C [(12, .int (iI 1)), (11, .int (iI (1 + (lw zs_30 9)))), (10, .int (iI (lw y 3))), (9, .int (iI 3)), (0, .ref b), (1, .ref (adr L 0 0 0)), (2, .ref (adr L 14 0 0)), (3, .ref (adr L 15 0 0)), (4, .ref (adr L 16 0 0)), (5, .ref (adr L 17 0 0)), (6, .int (iI T)), (7, .int (iI x)), (8, .int (iI y))] (by decide) rfl dL_law_393 ?_
                                refine v_iload (pc := 395) C 0 rfl dL_law_395 ?_
                                refine v_iconst (pc := 397) C dL_law_397 ?_
                                refine v_icmp_ne (pc := 398) C 405 ⟨by (first | assumption | omega | (unfold rg; omega)), by (first | assumption | omega | (unfold rg; omega))⟩ ⟨by (first | assumption | omega | (unfold rg; omega)), by (first | assumption | omega | (unfold rg; omega))⟩ (by decide) dL_law_398 (fun h398 => ?_) (fun h398 => ?_)
                                · skip
                                  exfalso; omega
                                · skip
                                  refine v_iconst (pc := 401) C dL_law_401 ?_
                                  refine v_goto (pc := 402) C 407 (by decide) dL_law_402 ?_
                                  refine v_istore (pc := 407) C [(9, .int (iI 0)), (12, .int (iI 1)), (11, .int (iI (1 + (lw zs_30 9)))), (10, .int (iI (lw y 3))), (0, .ref b), (1, .ref (adr L 0 0 0)), (2, .ref (adr L 14 0 0)), (3, .ref (adr L 15 0 0)), (4, .ref (adr L 16 0 0)), (5, .ref (adr L 17 0 0)), (6, .int (iI T)), (7, .int (iI x)), (8, .int (iI y))] (by decide) rfl dL_law_407 ?_
                                  refine v_iload (pc := 409) C 1 rfl dL_law_409 ?_
                                  refine v_iconst (pc := 411) C dL_law_411 ?_
                                  refine v_icmp_ne (pc := 412) C 424 ⟨by (first | assumption | omega | (unfold rg; omega)), by (first | assumption | omega | (unfold rg; omega))⟩ ⟨by (first | assumption | omega | (unfold rg; omega)), by (first | assumption | omega | (unfold rg; omega))⟩ (by decide) dL_law_412 (fun h412 => ?_) (fun h412 => ?_)
                                  · skip
                                    exfalso; omega
                                  · skip
                                    refine v_iload (pc := 415) C 12 rfl dL_law_415 ?_
                                    refine v_iconst (pc := 417) C dL_law_417 ?_
                                    refine v_calliS (pc := 418) C cw_RL_101 (ct_L_low l L g y 4 (by first | assumption | omega | (unfold rg; omega)) (by first | assumption | omega | (unfold rg; omega))) ⟨Nat.le_of_ble_eq_true rfl, Nat.le_of_ble_eq_true rfl⟩ rfl (Nat.le_of_ble_eq_true rfl) ⟨by show _ ≤ 714495; omega, by show _ ≤ 6957984; omega⟩ rfl dL_law_418 (fun r9 u9 hP_36 => ?_)
                                    have hlw418 := lw_in y (n := 4) (by omega)
                                    obtain ⟨hP_36, hP_36b⟩ := hP_36
                                    rw [hP_36, hP_36b]
                                    clear hP_36 hP_36b r9 u9
                                    refine v_goto (pc := 421) C 426 (by decide) dL_law_421 ?_
                                    refine v_istore (pc := 426) C [(10, .int (iI (lw y 4))), (9, .int (iI 0)), (12, .int (iI 1)), (11, .int (iI (1 + (lw zs_30 9)))), (0, .ref b), (1, .ref (adr L 0 0 0)), (2, .ref (adr L 14 0 0)), (3, .ref (adr L 15 0 0)), (4, .ref (adr L 16 0 0)), (5, .ref (adr L 17 0 0)), (6, .int (iI T)), (7, .int (iI x)), (8, .int (iI y))] (by decide) rfl dL_law_426 ?_
                                    refine v_iload (pc := 428) C 2 rfl dL_law_428 ?_
                                    refine v_iconst (pc := 430) C dL_law_430 ?_
                                    refine v_icmp_ne (pc := 431) C 446 ⟨by (first | assumption | omega | (unfold rg; omega)), by (first | assumption | omega | (unfold rg; omega))⟩ ⟨by (first | assumption | omega | (unfold rg; omega)), by (first | assumption | omega | (unfold rg; omega))⟩ (by decide) dL_law_431 (fun h431 => ?_) (fun h431 => ?_)
                                    · skip
                                      exfalso; omega
                                    · skip
                                      refine v_iload (pc := 434) C 12 rfl dL_law_434 ?_
                                      refine v_iconst (pc := 436) C dL_law_436 ?_
                                      refine v_ishrz (pc := 437) C dL_law_437 (fun zs_37 hzs_37 => ?_)
                                      refine v_bipush (pc := 438) C rfl dL_law_438 ?_
                                      refine v_calliS (pc := 440) C cw_RL_101 (ct_L_low l L g zs_37 10 (by first | assumption | omega | (unfold rg; omega)) (by first | assumption | omega | (unfold rg; omega))) ⟨Nat.le_of_ble_eq_true rfl, Nat.le_of_ble_eq_true rfl⟩ rfl (Nat.le_of_ble_eq_true rfl) ⟨by show _ ≤ 714495; omega, by show _ ≤ 6957984; omega⟩ rfl dL_law_440 (fun r9 u9 hP_38 => ?_)
                                      have hlw440 := lw_in zs_37 (n := 10) (by omega)
                                      obtain ⟨hP_38, hP_38b⟩ := hP_38
                                      rw [hP_38, hP_38b]
                                      clear hP_38 hP_38b r9 u9
                                      refine v_goto (pc := 443) C 448 (by decide) dL_law_443 ?_
                                      refine v_istore (pc := 448) C [(11, .int (iI (lw zs_37 10))), (10, .int (iI (lw y 4))), (9, .int (iI 0)), (12, .int (iI 1)), (0, .ref b), (1, .ref (adr L 0 0 0)), (2, .ref (adr L 14 0 0)), (3, .ref (adr L 15 0 0)), (4, .ref (adr L 16 0 0)), (5, .ref (adr L 17 0 0)), (6, .int (iI T)), (7, .int (iI x)), (8, .int (iI y))] (by decide) rfl dL_law_448 ?_
                                      refine v_lsub [4, 5, 6, 7, 8, 9, 10, 11, 12, 2, 1, 0] rfl ?_
                                      exact vs_lB hfl C h0 hcE hsE g b T x y 0 (lw y 4) (lw zs_37 10) hT hrx hry hJ (by unfold lwH; omega) hE kend
                        · skip
                          refine v_bipush (pc := 313) C rfl dL_law_313 ?_
                          refine v_iload (pc := 315) C 10 rfl dL_law_315 ?_
                          refine v_iconst (pc := 317) C dL_law_317 ?_
                          refine v_ishrz (pc := 318) C dL_law_318 (fun zs_39 hzs_39 => ?_)
                          refine v_bipush (pc := 319) C rfl dL_law_319 ?_
                          refine v_calliS (pc := 321) C cw_RL_101 (ct_L_low l L g zs_39 33 (by first | assumption | omega | (unfold rg; omega)) (by first | assumption | omega | (unfold rg; omega))) ⟨Nat.le_of_ble_eq_true rfl, Nat.le_of_ble_eq_true rfl⟩ rfl (Nat.le_of_ble_eq_true rfl) ⟨by show _ ≤ 714495; omega, by show _ ≤ 6957984; omega⟩ rfl dL_law_321 (fun r9 u9 hP_40 => ?_)
                          have hlw321 := lw_in zs_39 (n := 33) (by omega)
                          obtain ⟨hP_40, hP_40b⟩ := hP_40
                          rw [hP_40, hP_40b]
                          clear hP_40 hP_40b r9 u9
                          refine v_iadd (pc := 324) C dL_law_324 ?_
                          refine v_goto (pc := 325) C 361 (by decide) dL_law_325 ?_
                          refine v_istore (pc := 361) C [(11, .int (iI (8 + (lw zs_39 33)))), (10, .int (iI (lw y 3))), (9, .int (iI 3)), (0, .ref b), (1, .ref (adr L 0 0 0)), (2, .ref (adr L 14 0 0)), (3, .ref (adr L 15 0 0)), (4, .ref (adr L 16 0 0)), (5, .ref (adr L 17 0 0)), (6, .int (iI T)), (7, .int (iI x)), (8, .int (iI y))] (by decide) rfl dL_law_361 ?_
                          refine v_iload (pc := 363) C 10 rfl dL_law_363 ?_
                          refine v_bipush (pc := 365) C rfl dL_law_365 ?_
                          refine v_ishrz (pc := 367) C dL_law_367 (fun zs_41 hzs_41 => ?_)
                          refine v_iconst (pc := 368) C dL_law_368 ?_
                          refine v_calliS (pc := 369) C cw_RL_101 (ct_L_low l L g zs_41 3 (by first | assumption | omega | (unfold rg; omega)) (by first | assumption | omega | (unfold rg; omega))) ⟨Nat.le_of_ble_eq_true rfl, Nat.le_of_ble_eq_true rfl⟩ rfl (Nat.le_of_ble_eq_true rfl) ⟨by show _ ≤ 714495; omega, by show _ ≤ 6957984; omega⟩ rfl dL_law_369 (fun r9 u9 hP_42 => ?_)
                          have hlw369 := lw_in zs_41 (n := 3) (by omega)
                          obtain ⟨hP_42, hP_42b⟩ := hP_42
                          rw [hP_42, hP_42b]
                          clear hP_42 hP_42b r9 u9
                          refine v_if_ne (pc := 372) C 392 ⟨by (first | assumption | omega | (unfold rg; omega)), by (first | assumption | omega | (unfold rg; omega))⟩ (by decide) dL_law_372 (fun h372 => ?_) (fun h372 => ?_)
                          · skip
                            refine v_iconst (pc := 392) C dL_law_392 ?_
                            refine v_istore (pc := 393) C [(12, .int (iI 0)), (11, .int (iI (8 + (lw zs_39 33)))), (10, .int (iI (lw y 3))), (9, .int (iI 3)), (0, .ref b), (1, .ref (adr L 0 0 0)), (2, .ref (adr L 14 0 0)), (3, .ref (adr L 15 0 0)), (4, .ref (adr L 16 0 0)), (5, .ref (adr L 17 0 0)), (6, .int (iI T)), (7, .int (iI x)), (8, .int (iI y))] (by decide) rfl dL_law_393 ?_
                            refine v_iload (pc := 395) C 0 rfl dL_law_395 ?_
                            refine v_iconst (pc := 397) C dL_law_397 ?_
                            refine v_icmp_ne (pc := 398) C 405 ⟨by (first | assumption | omega | (unfold rg; omega)), by (first | assumption | omega | (unfold rg; omega))⟩ ⟨by (first | assumption | omega | (unfold rg; omega)), by (first | assumption | omega | (unfold rg; omega))⟩ (by decide) dL_law_398 (fun h398 => ?_) (fun h398 => ?_)
                            · skip
                              refine v_iload (pc := 405) C 3 rfl dL_law_405 ?_
                              refine v_istore (pc := 407) C [(9, .int (iI 3)), (12, .int (iI 0)), (11, .int (iI (8 + (lw zs_39 33)))), (10, .int (iI (lw y 3))), (0, .ref b), (1, .ref (adr L 0 0 0)), (2, .ref (adr L 14 0 0)), (3, .ref (adr L 15 0 0)), (4, .ref (adr L 16 0 0)), (5, .ref (adr L 17 0 0)), (6, .int (iI T)), (7, .int (iI x)), (8, .int (iI y))] (by decide) rfl dL_law_407 ?_
                              refine v_iload (pc := 409) C 1 rfl dL_law_409 ?_
                              refine v_iconst (pc := 411) C dL_law_411 ?_
                              refine v_icmp_ne (pc := 412) C 424 ⟨by (first | assumption | omega | (unfold rg; omega)), by (first | assumption | omega | (unfold rg; omega))⟩ ⟨by (first | assumption | omega | (unfold rg; omega)), by (first | assumption | omega | (unfold rg; omega))⟩ (by decide) dL_law_412 (fun h412 => ?_) (fun h412 => ?_)
                              · skip
                                refine v_iload (pc := 424) C 3 rfl dL_law_424 ?_
                                refine v_istore (pc := 426) C [(10, .int (iI (lw y 3))), (9, .int (iI 3)), (12, .int (iI 0)), (11, .int (iI (8 + (lw zs_39 33)))), (0, .ref b), (1, .ref (adr L 0 0 0)), (2, .ref (adr L 14 0 0)), (3, .ref (adr L 15 0 0)), (4, .ref (adr L 16 0 0)), (5, .ref (adr L 17 0 0)), (6, .int (iI T)), (7, .int (iI x)), (8, .int (iI y))] (by decide) rfl dL_law_426 ?_
                                refine v_iload (pc := 428) C 2 rfl dL_law_428 ?_
                                refine v_iconst (pc := 430) C dL_law_430 ?_
                                refine v_icmp_ne (pc := 431) C 446 ⟨by (first | assumption | omega | (unfold rg; omega)), by (first | assumption | omega | (unfold rg; omega))⟩ ⟨by (first | assumption | omega | (unfold rg; omega)), by (first | assumption | omega | (unfold rg; omega))⟩ (by decide) dL_law_431 (fun h431 => ?_) (fun h431 => ?_)
                                · skip
                                  refine v_iload (pc := 446) C 3 rfl dL_law_446 ?_
                                  refine v_istore (pc := 448) C [(11, .int (iI (8 + (lw zs_39 33)))), (10, .int (iI (lw y 3))), (9, .int (iI 3)), (12, .int (iI 0)), (0, .ref b), (1, .ref (adr L 0 0 0)), (2, .ref (adr L 14 0 0)), (3, .ref (adr L 15 0 0)), (4, .ref (adr L 16 0 0)), (5, .ref (adr L 17 0 0)), (6, .int (iI T)), (7, .int (iI x)), (8, .int (iI y))] (by decide) rfl dL_law_448 ?_
                                  refine v_lsub [4, 5, 6, 7, 8, 9, 10, 11, 12, 2, 1, 0] rfl ?_
                                  exact vs_lB hfl C h0 hcE hsE g b T x y 3 (lw y 3) (8 + (lw zs_39 33)) hT hrx hry hJ (by unfold lwH; omega) hE kend
                                · skip
                                  exfalso; omega
                              · skip
                                exfalso; omega
                            · skip
                              exfalso; omega
                          · skip
                            refine v_aload_n (pc := 375) C 4 rfl rfl dL_law_375 ?_
                            refine v_iload (pc := 376) C 11 rfl dL_law_376 ?_
                            refine v_iconst (pc := 378) C dL_law_378 ?_
                            refine v_calliS (pc := 379) C cw_RL_101 (ct_L_low l L g y 4 (by first | assumption | omega | (unfold rg; omega)) (by first | assumption | omega | (unfold rg; omega))) ⟨Nat.le_of_ble_eq_true rfl, Nat.le_of_ble_eq_true rfl⟩ rfl (Nat.le_of_ble_eq_true rfl) ⟨by show _ ≤ 714495; omega, by show _ ≤ 6957984; omega⟩ rfl dL_law_379 (fun r9 u9 hP_43 => ?_)
                            have hlw379 := lw_in y (n := 4) (by omega)
                            obtain ⟨hP_43, hP_43b⟩ := hP_43
                            rw [hP_43, hP_43b]
                            clear hP_43 hP_43b r9 u9
                            refine v_calliH (pc := 382) C cwh_L_callIn (ct_L_callIn l L g (lw y 4) (by omega) (by exact hK.2.1)) ⟨Nat.le_of_ble_eq_true rfl, Nat.le_of_ble_eq_true rfl⟩ rfl (Nat.le_of_ble_eq_true rfl) ⟨by show _ ≤ 714495; omega, by show _ ≤ 6957984; omega⟩ rfl dL_law_382 (fun r9 u9 hP_44 => ?_)
                            obtain ⟨hP_44, hP_44b⟩ := hP_44
                            rw [hP_44, hP_44b]
                            clear hP_44 hP_44b r9 u9
                            refine v_topi (b := mBw (em g) (lw y 4)) C (ci_tie hK.2.2.2.1.1 ⟨by omega, by omega⟩) ?_
                            have hmb : -1 ≤ mBw (em g) (lw y 4) ∧ mBw (em g) (lw y 4) ≤ 61 := by (unfold mBw; have := frst_in (mMB (em g) (lw y 4)) 61 0 (by decide); omega)
                            refine v_if_ne (pc := 385) C 392 ⟨by (first | assumption | omega | (unfold rg; omega)), by (first | assumption | omega | (unfold rg; omega))⟩ (by decide) dL_law_385 (fun h385 => ?_) (fun h385 => ?_)
                            · skip
                              refine v_iconst (pc := 392) C dL_law_392 ?_
                              refine v_istore (pc := 393) C [(12, .int (iI 0)), (11, .int (iI (8 + (lw zs_39 33)))), (10, .int (iI (lw y 3))), (9, .int (iI 3)), (0, .ref b), (1, .ref (adr L 0 0 0)), (2, .ref (adr L 14 0 0)), (3, .ref (adr L 15 0 0)), (4, .ref (adr L 16 0 0)), (5, .ref (adr L 17 0 0)), (6, .int (iI T)), (7, .int (iI x)), (8, .int (iI y))] (by decide) rfl dL_law_393 ?_
                              refine v_iload (pc := 395) C 0 rfl dL_law_395 ?_
                              refine v_iconst (pc := 397) C dL_law_397 ?_
                              refine v_icmp_ne (pc := 398) C 405 ⟨by (first | assumption | omega | (unfold rg; omega)), by (first | assumption | omega | (unfold rg; omega))⟩ ⟨by (first | assumption | omega | (unfold rg; omega)), by (first | assumption | omega | (unfold rg; omega))⟩ (by decide) dL_law_398 (fun h398 => ?_) (fun h398 => ?_)
                              · skip
                                refine v_iload (pc := 405) C 3 rfl dL_law_405 ?_
                                refine v_istore (pc := 407) C [(9, .int (iI 3)), (12, .int (iI 0)), (11, .int (iI (8 + (lw zs_39 33)))), (10, .int (iI (lw y 3))), (0, .ref b), (1, .ref (adr L 0 0 0)), (2, .ref (adr L 14 0 0)), (3, .ref (adr L 15 0 0)), (4, .ref (adr L 16 0 0)), (5, .ref (adr L 17 0 0)), (6, .int (iI T)), (7, .int (iI x)), (8, .int (iI y))] (by decide) rfl dL_law_407 ?_
                                refine v_iload (pc := 409) C 1 rfl dL_law_409 ?_
                                refine v_iconst (pc := 411) C dL_law_411 ?_
                                refine v_icmp_ne (pc := 412) C 424 ⟨by (first | assumption | omega | (unfold rg; omega)), by (first | assumption | omega | (unfold rg; omega))⟩ ⟨by (first | assumption | omega | (unfold rg; omega)), by (first | assumption | omega | (unfold rg; omega))⟩ (by decide) dL_law_412 (fun h412 => ?_) (fun h412 => ?_)
                                · skip
                                  refine v_iload (pc := 424) C 3 rfl dL_law_424 ?_
                                  refine v_istore (pc := 426) C [(10, .int (iI (lw y 3))), (9, .int (iI 3)), (12, .int (iI 0)), (11, .int (iI (8 + (lw zs_39 33)))), (0, .ref b), (1, .ref (adr L 0 0 0)), (2, .ref (adr L 14 0 0)), (3, .ref (adr L 15 0 0)), (4, .ref (adr L 16 0 0)), (5, .ref (adr L 17 0 0)), (6, .int (iI T)), (7, .int (iI x)), (8, .int (iI y))] (by decide) rfl dL_law_426 ?_
                                  refine v_iload (pc := 428) C 2 rfl dL_law_428 ?_
                                  refine v_iconst (pc := 430) C dL_law_430 ?_
                                  refine v_icmp_ne (pc := 431) C 446 ⟨by (first | assumption | omega | (unfold rg; omega)), by (first | assumption | omega | (unfold rg; omega))⟩ ⟨by (first | assumption | omega | (unfold rg; omega)), by (first | assumption | omega | (unfold rg; omega))⟩ (by decide) dL_law_431 (fun h431 => ?_) (fun h431 => ?_)
                                  · skip
                                    refine v_iload (pc := 446) C 3 rfl dL_law_446 ?_
                                    refine v_istore (pc := 448) C [(11, .int (iI (8 + (lw zs_39 33)))), (10, .int (iI (lw y 3))), (9, .int (iI 3)), (12, .int (iI 0)), (0, .ref b), (1, .ref (adr L 0 0 0)), (2, .ref (adr L 14 0 0)), (3, .ref (adr L 15 0 0)), (4, .ref (adr L 16 0 0)), (5, .ref (adr L 17 0 0)), (6, .int (iI T)), (7, .int (iI x)), (8, .int (iI y))] (by decide) rfl dL_law_448 ?_
                                    refine v_lsub [4, 5, 6, 7, 8, 9, 10, 11, 12, 2, 1, 0] rfl ?_
                                    exact vs_lB hfl C h0 hcE hsE g b T x y 3 (lw y 3) (8 + (lw zs_39 33)) hT hrx hry hJ (by unfold lwH; omega) hE kend
                                  · skip
                                    exfalso; omega
                                · skip
                                  exfalso; omega
                              · skip
                                exfalso; omega
                            · skip
                              refine v_iconst (pc := 388) C dL_law_388 ?_
                              refine v_goto (pc := 389) C 393 (by decide) dL_law_389 ?_
                              refine v_istore (pc := 393) C [(12, .int (iI 1)), (11, .int (iI (8 + (lw zs_39 33)))), (10, .int (iI (lw y 3))), (9, .int (iI 3)), (0, .ref b), (1, .ref (adr L 0 0 0)), (2, .ref (adr L 14 0 0)), (3, .ref (adr L 15 0 0)), (4, .ref (adr L 16 0 0)), (5, .ref (adr L 17 0 0)), (6, .int (iI T)), (7, .int (iI x)), (8, .int (iI y))] (by decide) rfl dL_law_393 ?_
                              refine v_iload (pc := 395) C 0 rfl dL_law_395 ?_
                              refine v_iconst (pc := 397) C dL_law_397 ?_
                              refine v_icmp_ne (pc := 398) C 405 ⟨by (first | assumption | omega | (unfold rg; omega)), by (first | assumption | omega | (unfold rg; omega))⟩ ⟨by (first | assumption | omega | (unfold rg; omega)), by (first | assumption | omega | (unfold rg; omega))⟩ (by decide) dL_law_398 (fun h398 => ?_) (fun h398 => ?_)
                              · skip
                                exfalso; omega
                              · skip
                                refine v_iconst (pc := 401) C dL_law_401 ?_
                                refine v_goto (pc := 402) C 407 (by decide) dL_law_402 ?_
                                refine v_istore (pc := 407) C [(9, .int (iI 0)), (12, .int (iI 1)), (11, .int (iI (8 + (lw zs_39 33)))), (10, .int (iI (lw y 3))), (0, .ref b), (1, .ref (adr L 0 0 0)), (2, .ref (adr L 14 0 0)), (3, .ref (adr L 15 0 0)), (4, .ref (adr L 16 0 0)), (5, .ref (adr L 17 0 0)), (6, .int (iI T)), (7, .int (iI x)), (8, .int (iI y))] (by decide) rfl dL_law_407 ?_
                                refine v_iload (pc := 409) C 1 rfl dL_law_409 ?_
                                refine v_iconst (pc := 411) C dL_law_411 ?_
                                refine v_icmp_ne (pc := 412) C 424 ⟨by (first | assumption | omega | (unfold rg; omega)), by (first | assumption | omega | (unfold rg; omega))⟩ ⟨by (first | assumption | omega | (unfold rg; omega)), by (first | assumption | omega | (unfold rg; omega))⟩ (by decide) dL_law_412 (fun h412 => ?_) (fun h412 => ?_)
                                · skip
                                  exfalso; omega
                                · skip
                                  refine v_iload (pc := 415) C 12 rfl dL_law_415 ?_
                                  refine v_iconst (pc := 417) C dL_law_417 ?_
                                  refine v_calliS (pc := 418) C cw_RL_101 (ct_L_low l L g y 4 (by first | assumption | omega | (unfold rg; omega)) (by first | assumption | omega | (unfold rg; omega))) ⟨Nat.le_of_ble_eq_true rfl, Nat.le_of_ble_eq_true rfl⟩ rfl (Nat.le_of_ble_eq_true rfl) ⟨by show _ ≤ 714495; omega, by show _ ≤ 6957984; omega⟩ rfl dL_law_418 (fun r9 u9 hP_45 => ?_)
                                  have hlw418 := lw_in y (n := 4) (by omega)
                                  obtain ⟨hP_45, hP_45b⟩ := hP_45
                                  rw [hP_45, hP_45b]
                                  clear hP_45 hP_45b r9 u9
                                  refine v_goto (pc := 421) C 426 (by decide) dL_law_421 ?_
                                  refine v_istore (pc := 426) C [(10, .int (iI (lw y 4))), (9, .int (iI 0)), (12, .int (iI 1)), (11, .int (iI (8 + (lw zs_39 33)))), (0, .ref b), (1, .ref (adr L 0 0 0)), (2, .ref (adr L 14 0 0)), (3, .ref (adr L 15 0 0)), (4, .ref (adr L 16 0 0)), (5, .ref (adr L 17 0 0)), (6, .int (iI T)), (7, .int (iI x)), (8, .int (iI y))] (by decide) rfl dL_law_426 ?_
                                  refine v_iload (pc := 428) C 2 rfl dL_law_428 ?_
                                  refine v_iconst (pc := 430) C dL_law_430 ?_
                                  refine v_icmp_ne (pc := 431) C 446 ⟨by (first | assumption | omega | (unfold rg; omega)), by (first | assumption | omega | (unfold rg; omega))⟩ ⟨by (first | assumption | omega | (unfold rg; omega)), by (first | assumption | omega | (unfold rg; omega))⟩ (by decide) dL_law_431 (fun h431 => ?_) (fun h431 => ?_)
                                  · skip
                                    exfalso; omega
                                  · skip
                                    refine v_iload (pc := 434) C 12 rfl dL_law_434 ?_
                                    refine v_iconst (pc := 436) C dL_law_436 ?_
                                    refine v_ishrz (pc := 437) C dL_law_437 (fun zs_46 hzs_46 => ?_)
                                    refine v_bipush (pc := 438) C rfl dL_law_438 ?_
                                    refine v_calliS (pc := 440) C cw_RL_101 (ct_L_low l L g zs_46 10 (by first | assumption | omega | (unfold rg; omega)) (by first | assumption | omega | (unfold rg; omega))) ⟨Nat.le_of_ble_eq_true rfl, Nat.le_of_ble_eq_true rfl⟩ rfl (Nat.le_of_ble_eq_true rfl) ⟨by show _ ≤ 714495; omega, by show _ ≤ 6957984; omega⟩ rfl dL_law_440 (fun r9 u9 hP_47 => ?_)
                                    have hlw440 := lw_in zs_46 (n := 10) (by omega)
                                    obtain ⟨hP_47, hP_47b⟩ := hP_47
                                    rw [hP_47, hP_47b]
                                    clear hP_47 hP_47b r9 u9
                                    refine v_goto (pc := 443) C 448 (by decide) dL_law_443 ?_
                                    refine v_istore (pc := 448) C [(11, .int (iI (lw zs_46 10))), (10, .int (iI (lw y 4))), (9, .int (iI 0)), (12, .int (iI 1)), (0, .ref b), (1, .ref (adr L 0 0 0)), (2, .ref (adr L 14 0 0)), (3, .ref (adr L 15 0 0)), (4, .ref (adr L 16 0 0)), (5, .ref (adr L 17 0 0)), (6, .int (iI T)), (7, .int (iI x)), (8, .int (iI y))] (by decide) rfl dL_law_448 ?_
                                    refine v_lsub [4, 5, 6, 7, 8, 9, 10, 11, 12, 2, 1, 0] rfl ?_
                                    exact vs_lB hfl C h0 hcE hsE g b T x y 0 (lw y 4) (lw zs_46 10) hT hrx hry hJ (by unfold lwH; omega) hE kend
                    · skip
                      exfalso; omega
                  · skip
                    exfalso; omega
                · skip
                  exfalso; omega
            · skip
              exfalso; omega
          · skip
            exfalso; omega
      · skip
        refine v_iconst (pc := 150) C dL_law_150 ?_
        refine v_goto (pc := 151) C 166 (by decide) dL_law_151 ?_
        refine v_istore (pc := 166) C [(9, .int (iI 2)), (0, .ref b), (1, .ref (adr L 0 0 0)), (2, .ref (adr L 14 0 0)), (3, .ref (adr L 15 0 0)), (4, .ref (adr L 16 0 0)), (5, .ref (adr L 17 0 0)), (6, .int (iI T)), (7, .int (iI x)), (8, .int (iI y))] (by decide) rfl dL_law_166 ?_
        refine v_iload (pc := 168) C 0 rfl dL_law_168 ?_
        refine v_iconst (pc := 170) C dL_law_170 ?_
        refine v_icmp_ge (pc := 171) C 183 ⟨by (first | assumption | omega | (unfold rg; omega)), by (first | assumption | omega | (unfold rg; omega))⟩ ⟨by (first | assumption | omega | (unfold rg; omega)), by (first | assumption | omega | (unfold rg; omega))⟩ (by decide) dL_law_171 (fun h171 => ?_) (fun h171 => ?_)
        · skip
          refine v_iload (pc := 183) C 0 rfl dL_law_183 ?_
          refine v_iconst (pc := 185) C dL_law_185 ?_
          refine v_icmp_ne (pc := 186) C 202 ⟨by (first | assumption | omega | (unfold rg; omega)), by (first | assumption | omega | (unfold rg; omega))⟩ ⟨by (first | assumption | omega | (unfold rg; omega)), by (first | assumption | omega | (unfold rg; omega))⟩ (by decide) dL_law_186 (fun h186 => ?_) (fun h186 => ?_)
          · skip
            exfalso; omega
          · skip
            refine v_iload (pc := 189) C 9 rfl dL_law_189 ?_
            refine v_aload_n (pc := 191) C 3 rfl rfl dL_law_191 ?_
            refine v_iconst (pc := 192) C dL_law_192 ?_
            refine al_14 (pc := 193) C ⟨by (first | assumption | omega | (unfold rg; omega)), by (first | assumption | omega | (unfold rg; omega))⟩ dL_law_193 (g 14 0 0 0) (rfl) ?_
            refine v_iconst (pc := 194) C dL_law_194 ?_
            refine v_iadd (pc := 195) C dL_law_195 ?_
            refine v_calliS (pc := 196) C cw_RL_101 (ct_L_low l L g y ((g 14 0 0 0) + 1) (by first | assumption | omega | (unfold rg; omega)) (by first | assumption | omega | (unfold rg; omega))) ⟨Nat.le_of_ble_eq_true rfl, Nat.le_of_ble_eq_true rfl⟩ rfl (Nat.le_of_ble_eq_true rfl) ⟨by show _ ≤ 714495; omega, by show _ ≤ 6957984; omega⟩ rfl dL_law_196 (fun r9 u9 hP_48 => ?_)
            have hlw196 := lw_in y (n := ((g 14 0 0 0) + 1)) (by omega)
            obtain ⟨hP_48, hP_48b⟩ := hP_48
            rw [hP_48, hP_48b]
            clear hP_48 hP_48b r9 u9
            refine v_goto (pc := 199) C 243 (by decide) dL_law_199 ?_
            refine v_istore (pc := 243) C [(10, .int (iI (lw y ((g 14 0 0 0) + 1)))), (9, .int (iI 2)), (0, .ref b), (1, .ref (adr L 0 0 0)), (2, .ref (adr L 14 0 0)), (3, .ref (adr L 15 0 0)), (4, .ref (adr L 16 0 0)), (5, .ref (adr L 17 0 0)), (6, .int (iI T)), (7, .int (iI x)), (8, .int (iI y))] (by decide) rfl dL_law_243 ?_
            refine v_iload (pc := 245) C 1 rfl dL_law_245 ?_
            refine v_if_ne (pc := 247) C 262 ⟨by (first | assumption | omega | (unfold rg; omega)), by (first | assumption | omega | (unfold rg; omega))⟩ (by decide) dL_law_247 (fun h247 => ?_) (fun h247 => ?_)
            · skip
              refine v_iload (pc := 262) C 1 rfl dL_law_262 ?_
              refine v_iconst (pc := 264) C dL_law_264 ?_
              refine v_icmp_ne (pc := 265) C 283 ⟨by (first | assumption | omega | (unfold rg; omega)), by (first | assumption | omega | (unfold rg; omega))⟩ ⟨by (first | assumption | omega | (unfold rg; omega)), by (first | assumption | omega | (unfold rg; omega))⟩ (by decide) dL_law_265 (fun h265 => ?_) (fun h265 => ?_)
              · skip
                refine v_iload (pc := 283) C 1 rfl dL_law_283 ?_
                refine v_iconst (pc := 285) C dL_law_285 ?_
                refine v_icmp_ne (pc := 286) C 302 ⟨by (first | assumption | omega | (unfold rg; omega)), by (first | assumption | omega | (unfold rg; omega))⟩ ⟨by (first | assumption | omega | (unfold rg; omega)), by (first | assumption | omega | (unfold rg; omega))⟩ (by decide) dL_law_286 (fun h286 => ?_) (fun h286 => ?_)
                · skip
                  exfalso; omega
                · skip
                  refine v_iload (pc := 289) C 10 rfl dL_law_289 ?_
                  refine v_bipush (pc := 291) C rfl dL_law_291 ?_
                  refine v_ishrz (pc := 293) C dL_law_293 (fun zs_49 hzs_49 => ?_)
                  refine v_bipush (pc := 294) C rfl dL_law_294 ?_
                  refine v_calliS (pc := 296) C cw_RL_101 (ct_L_low l L g zs_49 90 (by first | assumption | omega | (unfold rg; omega)) (by first | assumption | omega | (unfold rg; omega))) ⟨Nat.le_of_ble_eq_true rfl, Nat.le_of_ble_eq_true rfl⟩ rfl (Nat.le_of_ble_eq_true rfl) ⟨by show _ ≤ 714495; omega, by show _ ≤ 6957984; omega⟩ rfl dL_law_296 (fun r9 u9 hP_50 => ?_)
                  have hlw296 := lw_in zs_49 (n := 90) (by omega)
                  obtain ⟨hP_50, hP_50b⟩ := hP_50
                  rw [hP_50, hP_50b]
                  clear hP_50 hP_50b r9 u9
                  refine v_goto (pc := 299) C 361 (by decide) dL_law_299 ?_
                  refine v_istore (pc := 361) C [(11, .int (iI (lw zs_49 90))), (10, .int (iI (lw y ((g 14 0 0 0) + 1)))), (9, .int (iI 2)), (0, .ref b), (1, .ref (adr L 0 0 0)), (2, .ref (adr L 14 0 0)), (3, .ref (adr L 15 0 0)), (4, .ref (adr L 16 0 0)), (5, .ref (adr L 17 0 0)), (6, .int (iI T)), (7, .int (iI x)), (8, .int (iI y))] (by decide) rfl dL_law_361 ?_
                  refine v_iload (pc := 363) C 10 rfl dL_law_363 ?_
                  refine v_bipush (pc := 365) C rfl dL_law_365 ?_
                  refine v_ishrz (pc := 367) C dL_law_367 (fun zs_51 hzs_51 => ?_)
                  refine v_iconst (pc := 368) C dL_law_368 ?_
                  refine v_calliS (pc := 369) C cw_RL_101 (ct_L_low l L g zs_51 3 (by first | assumption | omega | (unfold rg; omega)) (by first | assumption | omega | (unfold rg; omega))) ⟨Nat.le_of_ble_eq_true rfl, Nat.le_of_ble_eq_true rfl⟩ rfl (Nat.le_of_ble_eq_true rfl) ⟨by show _ ≤ 714495; omega, by show _ ≤ 6957984; omega⟩ rfl dL_law_369 (fun r9 u9 hP_52 => ?_)
                  have hlw369 := lw_in zs_51 (n := 3) (by omega)
                  obtain ⟨hP_52, hP_52b⟩ := hP_52
                  rw [hP_52, hP_52b]
                  clear hP_52 hP_52b r9 u9
                  refine v_if_ne (pc := 372) C 392 ⟨by (first | assumption | omega | (unfold rg; omega)), by (first | assumption | omega | (unfold rg; omega))⟩ (by decide) dL_law_372 (fun h372 => ?_) (fun h372 => ?_)
                  · skip
                    refine v_iconst (pc := 392) C dL_law_392 ?_
                    refine v_istore (pc := 393) C [(12, .int (iI 0)), (11, .int (iI (lw zs_49 90))), (10, .int (iI (lw y ((g 14 0 0 0) + 1)))), (9, .int (iI 2)), (0, .ref b), (1, .ref (adr L 0 0 0)), (2, .ref (adr L 14 0 0)), (3, .ref (adr L 15 0 0)), (4, .ref (adr L 16 0 0)), (5, .ref (adr L 17 0 0)), (6, .int (iI T)), (7, .int (iI x)), (8, .int (iI y))] (by decide) rfl dL_law_393 ?_
                    refine v_iload (pc := 395) C 0 rfl dL_law_395 ?_
                    refine v_iconst (pc := 397) C dL_law_397 ?_
                    refine v_icmp_ne (pc := 398) C 405 ⟨by (first | assumption | omega | (unfold rg; omega)), by (first | assumption | omega | (unfold rg; omega))⟩ ⟨by (first | assumption | omega | (unfold rg; omega)), by (first | assumption | omega | (unfold rg; omega))⟩ (by decide) dL_law_398 (fun h398 => ?_) (fun h398 => ?_)
                    · skip
                      refine v_iload (pc := 405) C 3 rfl dL_law_405 ?_
                      refine v_istore (pc := 407) C [(9, .int (iI 2)), (12, .int (iI 0)), (11, .int (iI (lw zs_49 90))), (10, .int (iI (lw y ((g 14 0 0 0) + 1)))), (0, .ref b), (1, .ref (adr L 0 0 0)), (2, .ref (adr L 14 0 0)), (3, .ref (adr L 15 0 0)), (4, .ref (adr L 16 0 0)), (5, .ref (adr L 17 0 0)), (6, .int (iI T)), (7, .int (iI x)), (8, .int (iI y))] (by decide) rfl dL_law_407 ?_
                      refine v_iload (pc := 409) C 1 rfl dL_law_409 ?_
                      refine v_iconst (pc := 411) C dL_law_411 ?_
                      refine v_icmp_ne (pc := 412) C 424 ⟨by (first | assumption | omega | (unfold rg; omega)), by (first | assumption | omega | (unfold rg; omega))⟩ ⟨by (first | assumption | omega | (unfold rg; omega)), by (first | assumption | omega | (unfold rg; omega))⟩ (by decide) dL_law_412 (fun h412 => ?_) (fun h412 => ?_)
                      · skip
                        refine v_iload (pc := 424) C 3 rfl dL_law_424 ?_
                        refine v_istore (pc := 426) C [(10, .int (iI (lw y ((g 14 0 0 0) + 1)))), (9, .int (iI 2)), (12, .int (iI 0)), (11, .int (iI (lw zs_49 90))), (0, .ref b), (1, .ref (adr L 0 0 0)), (2, .ref (adr L 14 0 0)), (3, .ref (adr L 15 0 0)), (4, .ref (adr L 16 0 0)), (5, .ref (adr L 17 0 0)), (6, .int (iI T)), (7, .int (iI x)), (8, .int (iI y))] (by decide) rfl dL_law_426 ?_
                        refine v_iload (pc := 428) C 2 rfl dL_law_428 ?_
                        refine v_iconst (pc := 430) C dL_law_430 ?_
                        refine v_icmp_ne (pc := 431) C 446 ⟨by (first | assumption | omega | (unfold rg; omega)), by (first | assumption | omega | (unfold rg; omega))⟩ ⟨by (first | assumption | omega | (unfold rg; omega)), by (first | assumption | omega | (unfold rg; omega))⟩ (by decide) dL_law_431 (fun h431 => ?_) (fun h431 => ?_)
                        · skip
                          refine v_iload (pc := 446) C 3 rfl dL_law_446 ?_
                          refine v_istore (pc := 448) C [(11, .int (iI (lw zs_49 90))), (10, .int (iI (lw y ((g 14 0 0 0) + 1)))), (9, .int (iI 2)), (12, .int (iI 0)), (0, .ref b), (1, .ref (adr L 0 0 0)), (2, .ref (adr L 14 0 0)), (3, .ref (adr L 15 0 0)), (4, .ref (adr L 16 0 0)), (5, .ref (adr L 17 0 0)), (6, .int (iI T)), (7, .int (iI x)), (8, .int (iI y))] (by decide) rfl dL_law_448 ?_
                          refine v_lsub [4, 5, 6, 7, 8, 9, 10, 11, 12, 2, 1, 0] rfl ?_
                          exact vs_lB hfl C h0 hcE hsE g b T x y 2 (lw y ((g 14 0 0 0) + 1)) (lw zs_49 90) hT hrx hry hJ (by unfold lwH; omega) hE kend
                        · skip
                          exfalso; omega
                      · skip
                        exfalso; omega
                    · skip
                      exfalso; omega
                  · skip
                    refine v_aload_n (pc := 375) C 4 rfl rfl dL_law_375 ?_
                    refine v_iload (pc := 376) C 11 rfl dL_law_376 ?_
                    refine v_iconst (pc := 378) C dL_law_378 ?_
                    refine v_calliS (pc := 379) C cw_RL_101 (ct_L_low l L g y 4 (by first | assumption | omega | (unfold rg; omega)) (by first | assumption | omega | (unfold rg; omega))) ⟨Nat.le_of_ble_eq_true rfl, Nat.le_of_ble_eq_true rfl⟩ rfl (Nat.le_of_ble_eq_true rfl) ⟨by show _ ≤ 714495; omega, by show _ ≤ 6957984; omega⟩ rfl dL_law_379 (fun r9 u9 hP_53 => ?_)
                    have hlw379 := lw_in y (n := 4) (by omega)
                    obtain ⟨hP_53, hP_53b⟩ := hP_53
                    rw [hP_53, hP_53b]
                    clear hP_53 hP_53b r9 u9
                    refine v_calliH (pc := 382) C cwh_L_callIn (ct_L_callIn l L g (lw y 4) (by omega) (by exact hK.2.1)) ⟨Nat.le_of_ble_eq_true rfl, Nat.le_of_ble_eq_true rfl⟩ rfl (Nat.le_of_ble_eq_true rfl) ⟨by show _ ≤ 714495; omega, by show _ ≤ 6957984; omega⟩ rfl dL_law_382 (fun r9 u9 hP_54 => ?_)
                    obtain ⟨hP_54, hP_54b⟩ := hP_54
                    rw [hP_54, hP_54b]
                    clear hP_54 hP_54b r9 u9
                    refine v_topi (b := mBw (em g) (lw y 4)) C (ci_tie hK.2.2.2.1.1 ⟨by omega, by omega⟩) ?_
                    have hmb : -1 ≤ mBw (em g) (lw y 4) ∧ mBw (em g) (lw y 4) ≤ 61 := by (unfold mBw; have := frst_in (mMB (em g) (lw y 4)) 61 0 (by decide); omega)
                    refine v_if_ne (pc := 385) C 392 ⟨by (first | assumption | omega | (unfold rg; omega)), by (first | assumption | omega | (unfold rg; omega))⟩ (by decide) dL_law_385 (fun h385 => ?_) (fun h385 => ?_)
                    · skip
                      refine v_iconst (pc := 392) C dL_law_392 ?_
                      refine v_istore (pc := 393) C [(12, .int (iI 0)), (11, .int (iI (lw zs_49 90))), (10, .int (iI (lw y ((g 14 0 0 0) + 1)))), (9, .int (iI 2)), (0, .ref b), (1, .ref (adr L 0 0 0)), (2, .ref (adr L 14 0 0)), (3, .ref (adr L 15 0 0)), (4, .ref (adr L 16 0 0)), (5, .ref (adr L 17 0 0)), (6, .int (iI T)), (7, .int (iI x)), (8, .int (iI y))] (by decide) rfl dL_law_393 ?_
                      refine v_iload (pc := 395) C 0 rfl dL_law_395 ?_
                      refine v_iconst (pc := 397) C dL_law_397 ?_
                      refine v_icmp_ne (pc := 398) C 405 ⟨by (first | assumption | omega | (unfold rg; omega)), by (first | assumption | omega | (unfold rg; omega))⟩ ⟨by (first | assumption | omega | (unfold rg; omega)), by (first | assumption | omega | (unfold rg; omega))⟩ (by decide) dL_law_398 (fun h398 => ?_) (fun h398 => ?_)
                      · skip
                        refine v_iload (pc := 405) C 3 rfl dL_law_405 ?_
                        refine v_istore (pc := 407) C [(9, .int (iI 2)), (12, .int (iI 0)), (11, .int (iI (lw zs_49 90))), (10, .int (iI (lw y ((g 14 0 0 0) + 1)))), (0, .ref b), (1, .ref (adr L 0 0 0)), (2, .ref (adr L 14 0 0)), (3, .ref (adr L 15 0 0)), (4, .ref (adr L 16 0 0)), (5, .ref (adr L 17 0 0)), (6, .int (iI T)), (7, .int (iI x)), (8, .int (iI y))] (by decide) rfl dL_law_407 ?_
                        refine v_iload (pc := 409) C 1 rfl dL_law_409 ?_
                        refine v_iconst (pc := 411) C dL_law_411 ?_
                        refine v_icmp_ne (pc := 412) C 424 ⟨by (first | assumption | omega | (unfold rg; omega)), by (first | assumption | omega | (unfold rg; omega))⟩ ⟨by (first | assumption | omega | (unfold rg; omega)), by (first | assumption | omega | (unfold rg; omega))⟩ (by decide) dL_law_412 (fun h412 => ?_) (fun h412 => ?_)
                        · skip
                          refine v_iload (pc := 424) C 3 rfl dL_law_424 ?_
                          refine v_istore (pc := 426) C [(10, .int (iI (lw y ((g 14 0 0 0) + 1)))), (9, .int (iI 2)), (12, .int (iI 0)), (11, .int (iI (lw zs_49 90))), (0, .ref b), (1, .ref (adr L 0 0 0)), (2, .ref (adr L 14 0 0)), (3, .ref (adr L 15 0 0)), (4, .ref (adr L 16 0 0)), (5, .ref (adr L 17 0 0)), (6, .int (iI T)), (7, .int (iI x)), (8, .int (iI y))] (by decide) rfl dL_law_426 ?_
                          refine v_iload (pc := 428) C 2 rfl dL_law_428 ?_
                          refine v_iconst (pc := 430) C dL_law_430 ?_
                          refine v_icmp_ne (pc := 431) C 446 ⟨by (first | assumption | omega | (unfold rg; omega)), by (first | assumption | omega | (unfold rg; omega))⟩ ⟨by (first | assumption | omega | (unfold rg; omega)), by (first | assumption | omega | (unfold rg; omega))⟩ (by decide) dL_law_431 (fun h431 => ?_) (fun h431 => ?_)
                          · skip
                            refine v_iload (pc := 446) C 3 rfl dL_law_446 ?_
                            refine v_istore (pc := 448) C [(11, .int (iI (lw zs_49 90))), (10, .int (iI (lw y ((g 14 0 0 0) + 1)))), (9, .int (iI 2)), (12, .int (iI 0)), (0, .ref b), (1, .ref (adr L 0 0 0)), (2, .ref (adr L 14 0 0)), (3, .ref (adr L 15 0 0)), (4, .ref (adr L 16 0 0)), (5, .ref (adr L 17 0 0)), (6, .int (iI T)), (7, .int (iI x)), (8, .int (iI y))] (by decide) rfl dL_law_448 ?_
                            refine v_lsub [4, 5, 6, 7, 8, 9, 10, 11, 12, 2, 1, 0] rfl ?_
                            exact vs_lB hfl C h0 hcE hsE g b T x y 2 (lw y ((g 14 0 0 0) + 1)) (lw zs_49 90) hT hrx hry hJ (by unfold lwH; omega) hE kend
                          · skip
                            exfalso; omega
                        · skip
                          exfalso; omega
                      · skip
                        exfalso; omega
                    · skip
                      refine v_iconst (pc := 388) C dL_law_388 ?_
                      refine v_goto (pc := 389) C 393 (by decide) dL_law_389 ?_
                      refine v_istore (pc := 393) C [(12, .int (iI 1)), (11, .int (iI (lw zs_49 90))), (10, .int (iI (lw y ((g 14 0 0 0) + 1)))), (9, .int (iI 2)), (0, .ref b), (1, .ref (adr L 0 0 0)), (2, .ref (adr L 14 0 0)), (3, .ref (adr L 15 0 0)), (4, .ref (adr L 16 0 0)), (5, .ref (adr L 17 0 0)), (6, .int (iI T)), (7, .int (iI x)), (8, .int (iI y))] (by decide) rfl dL_law_393 ?_
                      refine v_iload (pc := 395) C 0 rfl dL_law_395 ?_
                      refine v_iconst (pc := 397) C dL_law_397 ?_
                      refine v_icmp_ne (pc := 398) C 405 ⟨by (first | assumption | omega | (unfold rg; omega)), by (first | assumption | omega | (unfold rg; omega))⟩ ⟨by (first | assumption | omega | (unfold rg; omega)), by (first | assumption | omega | (unfold rg; omega))⟩ (by decide) dL_law_398 (fun h398 => ?_) (fun h398 => ?_)
                      · skip
                        exfalso; omega
                      · skip
                        refine v_iconst (pc := 401) C dL_law_401 ?_
                        refine v_goto (pc := 402) C 407 (by decide) dL_law_402 ?_
                        refine v_istore (pc := 407) C [(9, .int (iI 0)), (12, .int (iI 1)), (11, .int (iI (lw zs_49 90))), (10, .int (iI (lw y ((g 14 0 0 0) + 1)))), (0, .ref b), (1, .ref (adr L 0 0 0)), (2, .ref (adr L 14 0 0)), (3, .ref (adr L 15 0 0)), (4, .ref (adr L 16 0 0)), (5, .ref (adr L 17 0 0)), (6, .int (iI T)), (7, .int (iI x)), (8, .int (iI y))] (by decide) rfl dL_law_407 ?_
                        refine v_iload (pc := 409) C 1 rfl dL_law_409 ?_
                        refine v_iconst (pc := 411) C dL_law_411 ?_
                        refine v_icmp_ne (pc := 412) C 424 ⟨by (first | assumption | omega | (unfold rg; omega)), by (first | assumption | omega | (unfold rg; omega))⟩ ⟨by (first | assumption | omega | (unfold rg; omega)), by (first | assumption | omega | (unfold rg; omega))⟩ (by decide) dL_law_412 (fun h412 => ?_) (fun h412 => ?_)
                        · skip
                          exfalso; omega
                        · skip
                          refine v_iload (pc := 415) C 12 rfl dL_law_415 ?_
                          refine v_iconst (pc := 417) C dL_law_417 ?_
                          refine v_calliS (pc := 418) C cw_RL_101 (ct_L_low l L g y 4 (by first | assumption | omega | (unfold rg; omega)) (by first | assumption | omega | (unfold rg; omega))) ⟨Nat.le_of_ble_eq_true rfl, Nat.le_of_ble_eq_true rfl⟩ rfl (Nat.le_of_ble_eq_true rfl) ⟨by show _ ≤ 714495; omega, by show _ ≤ 6957984; omega⟩ rfl dL_law_418 (fun r9 u9 hP_55 => ?_)
                          have hlw418 := lw_in y (n := 4) (by omega)
                          obtain ⟨hP_55, hP_55b⟩ := hP_55
                          rw [hP_55, hP_55b]
                          clear hP_55 hP_55b r9 u9
                          refine v_goto (pc := 421) C 426 (by decide) dL_law_421 ?_
                          refine v_istore (pc := 426) C [(10, .int (iI (lw y 4))), (9, .int (iI 0)), (12, .int (iI 1)), (11, .int (iI (lw zs_49 90))), (0, .ref b), (1, .ref (adr L 0 0 0)), (2, .ref (adr L 14 0 0)), (3, .ref (adr L 15 0 0)), (4, .ref (adr L 16 0 0)), (5, .ref (adr L 17 0 0)), (6, .int (iI T)), (7, .int (iI x)), (8, .int (iI y))] (by decide) rfl dL_law_426 ?_
                          refine v_iload (pc := 428) C 2 rfl dL_law_428 ?_
                          refine v_iconst (pc := 430) C dL_law_430 ?_
                          refine v_icmp_ne (pc := 431) C 446 ⟨by (first | assumption | omega | (unfold rg; omega)), by (first | assumption | omega | (unfold rg; omega))⟩ ⟨by (first | assumption | omega | (unfold rg; omega)), by (first | assumption | omega | (unfold rg; omega))⟩ (by decide) dL_law_431 (fun h431 => ?_) (fun h431 => ?_)
                          · skip
                            exfalso; omega
                          · skip
                            refine v_iload (pc := 434) C 12 rfl dL_law_434 ?_
                            refine v_iconst (pc := 436) C dL_law_436 ?_
                            refine v_ishrz (pc := 437) C dL_law_437 (fun zs_56 hzs_56 => ?_)
                            refine v_bipush (pc := 438) C rfl dL_law_438 ?_
                            refine v_calliS (pc := 440) C cw_RL_101 (ct_L_low l L g zs_56 10 (by first | assumption | omega | (unfold rg; omega)) (by first | assumption | omega | (unfold rg; omega))) ⟨Nat.le_of_ble_eq_true rfl, Nat.le_of_ble_eq_true rfl⟩ rfl (Nat.le_of_ble_eq_true rfl) ⟨by show _ ≤ 714495; omega, by show _ ≤ 6957984; omega⟩ rfl dL_law_440 (fun r9 u9 hP_57 => ?_)
                            have hlw440 := lw_in zs_56 (n := 10) (by omega)
                            obtain ⟨hP_57, hP_57b⟩ := hP_57
                            rw [hP_57, hP_57b]
                            clear hP_57 hP_57b r9 u9
                            refine v_goto (pc := 443) C 448 (by decide) dL_law_443 ?_
                            refine v_istore (pc := 448) C [(11, .int (iI (lw zs_56 10))), (10, .int (iI (lw y 4))), (9, .int (iI 0)), (12, .int (iI 1)), (0, .ref b), (1, .ref (adr L 0 0 0)), (2, .ref (adr L 14 0 0)), (3, .ref (adr L 15 0 0)), (4, .ref (adr L 16 0 0)), (5, .ref (adr L 17 0 0)), (6, .int (iI T)), (7, .int (iI x)), (8, .int (iI y))] (by decide) rfl dL_law_448 ?_
                            refine v_lsub [4, 5, 6, 7, 8, 9, 10, 11, 12, 2, 1, 0] rfl ?_
                            exact vs_lB hfl C h0 hcE hsE g b T x y 0 (lw y 4) (lw zs_56 10) hT hrx hry hJ (by unfold lwH; omega) hE kend
              · skip
                exfalso; omega
            · skip
              exfalso; omega
        · skip
          exfalso; omega
    · skip
      refine v_iconst (pc := 139) C dL_law_139 ?_
      refine v_goto (pc := 140) C 166 (by decide) dL_law_140 ?_
      refine v_istore (pc := 166) C [(9, .int (iI 1)), (0, .ref b), (1, .ref (adr L 0 0 0)), (2, .ref (adr L 14 0 0)), (3, .ref (adr L 15 0 0)), (4, .ref (adr L 16 0 0)), (5, .ref (adr L 17 0 0)), (6, .int (iI T)), (7, .int (iI x)), (8, .int (iI y))] (by decide) rfl dL_law_166 ?_
      refine v_iload (pc := 168) C 0 rfl dL_law_168 ?_
      refine v_iconst (pc := 170) C dL_law_170 ?_
      refine v_icmp_ge (pc := 171) C 183 ⟨by (first | assumption | omega | (unfold rg; omega)), by (first | assumption | omega | (unfold rg; omega))⟩ ⟨by (first | assumption | omega | (unfold rg; omega)), by (first | assumption | omega | (unfold rg; omega))⟩ (by decide) dL_law_171 (fun h171 => ?_) (fun h171 => ?_)
      · skip
        exfalso; omega
      · skip
        refine v_iload (pc := 174) C 9 rfl dL_law_174 ?_
        refine v_iconst (pc := 176) C dL_law_176 ?_
        refine v_calliS (pc := 177) C cw_RL_101 (ct_L_low l L g y 4 (by first | assumption | omega | (unfold rg; omega)) (by first | assumption | omega | (unfold rg; omega))) ⟨Nat.le_of_ble_eq_true rfl, Nat.le_of_ble_eq_true rfl⟩ rfl (Nat.le_of_ble_eq_true rfl) ⟨by show _ ≤ 714495; omega, by show _ ≤ 6957984; omega⟩ rfl dL_law_177 (fun r9 u9 hP_58 => ?_)
        have hlw177 := lw_in y (n := 4) (by omega)
        obtain ⟨hP_58, hP_58b⟩ := hP_58
        rw [hP_58, hP_58b]
        clear hP_58 hP_58b r9 u9
        refine v_goto (pc := 180) C 243 (by decide) dL_law_180 ?_
        refine v_istore (pc := 243) C [(10, .int (iI (lw y 4))), (9, .int (iI 1)), (0, .ref b), (1, .ref (adr L 0 0 0)), (2, .ref (adr L 14 0 0)), (3, .ref (adr L 15 0 0)), (4, .ref (adr L 16 0 0)), (5, .ref (adr L 17 0 0)), (6, .int (iI T)), (7, .int (iI x)), (8, .int (iI y))] (by decide) rfl dL_law_243 ?_
        refine v_iload (pc := 245) C 1 rfl dL_law_245 ?_
        refine v_if_ne (pc := 247) C 262 ⟨by (first | assumption | omega | (unfold rg; omega)), by (first | assumption | omega | (unfold rg; omega))⟩ (by decide) dL_law_247 (fun h247 => ?_) (fun h247 => ?_)
        · skip
          refine v_iload (pc := 262) C 1 rfl dL_law_262 ?_
          refine v_iconst (pc := 264) C dL_law_264 ?_
          refine v_icmp_ne (pc := 265) C 283 ⟨by (first | assumption | omega | (unfold rg; omega)), by (first | assumption | omega | (unfold rg; omega))⟩ ⟨by (first | assumption | omega | (unfold rg; omega)), by (first | assumption | omega | (unfold rg; omega))⟩ (by decide) dL_law_265 (fun h265 => ?_) (fun h265 => ?_)
          · skip
            exfalso; omega
          · skip
            refine v_iload (pc := 268) C 10 rfl dL_law_268 ?_
            refine v_iconst (pc := 270) C dL_law_270 ?_
            refine v_ishrz (pc := 271) C dL_law_271 (fun zs_59 hzs_59 => ?_)
            refine v_bipush (pc := 272) C rfl dL_law_272 ?_
            refine v_calliS (pc := 274) C cw_RL_101 (ct_L_low l L g zs_59 19 (by first | assumption | omega | (unfold rg; omega)) (by first | assumption | omega | (unfold rg; omega))) ⟨Nat.le_of_ble_eq_true rfl, Nat.le_of_ble_eq_true rfl⟩ rfl (Nat.le_of_ble_eq_true rfl) ⟨by show _ ≤ 714495; omega, by show _ ≤ 6957984; omega⟩ rfl dL_law_274 (fun r9 u9 hP_60 => ?_)
            have hlw274 := lw_in zs_59 (n := 19) (by omega)
            obtain ⟨hP_60, hP_60b⟩ := hP_60
            rw [hP_60, hP_60b]
            clear hP_60 hP_60b r9 u9
            refine v_bipush (pc := 277) C rfl dL_law_277 ?_
            refine v_isub (pc := 279) C dL_law_279 ?_
            refine v_goto (pc := 280) C 361 (by decide) dL_law_280 ?_
            refine v_istore (pc := 361) C [(11, .int (iI ((lw zs_59 19) - 9))), (10, .int (iI (lw y 4))), (9, .int (iI 1)), (0, .ref b), (1, .ref (adr L 0 0 0)), (2, .ref (adr L 14 0 0)), (3, .ref (adr L 15 0 0)), (4, .ref (adr L 16 0 0)), (5, .ref (adr L 17 0 0)), (6, .int (iI T)), (7, .int (iI x)), (8, .int (iI y))] (by decide) rfl dL_law_361 ?_
            refine v_iload (pc := 363) C 10 rfl dL_law_363 ?_
            refine v_bipush (pc := 365) C rfl dL_law_365 ?_
            refine v_ishrz (pc := 367) C dL_law_367 (fun zs_61 hzs_61 => ?_)
            refine v_iconst (pc := 368) C dL_law_368 ?_
            refine v_calliS (pc := 369) C cw_RL_101 (ct_L_low l L g zs_61 3 (by first | assumption | omega | (unfold rg; omega)) (by first | assumption | omega | (unfold rg; omega))) ⟨Nat.le_of_ble_eq_true rfl, Nat.le_of_ble_eq_true rfl⟩ rfl (Nat.le_of_ble_eq_true rfl) ⟨by show _ ≤ 714495; omega, by show _ ≤ 6957984; omega⟩ rfl dL_law_369 (fun r9 u9 hP_62 => ?_)
            have hlw369 := lw_in zs_61 (n := 3) (by omega)
            obtain ⟨hP_62, hP_62b⟩ := hP_62
            rw [hP_62, hP_62b]
            clear hP_62 hP_62b r9 u9
            refine v_if_ne (pc := 372) C 392 ⟨by (first | assumption | omega | (unfold rg; omega)), by (first | assumption | omega | (unfold rg; omega))⟩ (by decide) dL_law_372 (fun h372 => ?_) (fun h372 => ?_)
            · skip
              refine v_iconst (pc := 392) C dL_law_392 ?_
              refine v_istore (pc := 393) C [(12, .int (iI 0)), (11, .int (iI ((lw zs_59 19) - 9))), (10, .int (iI (lw y 4))), (9, .int (iI 1)), (0, .ref b), (1, .ref (adr L 0 0 0)), (2, .ref (adr L 14 0 0)), (3, .ref (adr L 15 0 0)), (4, .ref (adr L 16 0 0)), (5, .ref (adr L 17 0 0)), (6, .int (iI T)), (7, .int (iI x)), (8, .int (iI y))] (by decide) rfl dL_law_393 ?_
              refine v_iload (pc := 395) C 0 rfl dL_law_395 ?_
              refine v_iconst (pc := 397) C dL_law_397 ?_
              refine v_icmp_ne (pc := 398) C 405 ⟨by (first | assumption | omega | (unfold rg; omega)), by (first | assumption | omega | (unfold rg; omega))⟩ ⟨by (first | assumption | omega | (unfold rg; omega)), by (first | assumption | omega | (unfold rg; omega))⟩ (by decide) dL_law_398 (fun h398 => ?_) (fun h398 => ?_)
              · skip
                refine v_iload (pc := 405) C 3 rfl dL_law_405 ?_
                refine v_istore (pc := 407) C [(9, .int (iI 1)), (12, .int (iI 0)), (11, .int (iI ((lw zs_59 19) - 9))), (10, .int (iI (lw y 4))), (0, .ref b), (1, .ref (adr L 0 0 0)), (2, .ref (adr L 14 0 0)), (3, .ref (adr L 15 0 0)), (4, .ref (adr L 16 0 0)), (5, .ref (adr L 17 0 0)), (6, .int (iI T)), (7, .int (iI x)), (8, .int (iI y))] (by decide) rfl dL_law_407 ?_
                refine v_iload (pc := 409) C 1 rfl dL_law_409 ?_
                refine v_iconst (pc := 411) C dL_law_411 ?_
                refine v_icmp_ne (pc := 412) C 424 ⟨by (first | assumption | omega | (unfold rg; omega)), by (first | assumption | omega | (unfold rg; omega))⟩ ⟨by (first | assumption | omega | (unfold rg; omega)), by (first | assumption | omega | (unfold rg; omega))⟩ (by decide) dL_law_412 (fun h412 => ?_) (fun h412 => ?_)
                · skip
                  refine v_iload (pc := 424) C 3 rfl dL_law_424 ?_
                  refine v_istore (pc := 426) C [(10, .int (iI (lw y 4))), (9, .int (iI 1)), (12, .int (iI 0)), (11, .int (iI ((lw zs_59 19) - 9))), (0, .ref b), (1, .ref (adr L 0 0 0)), (2, .ref (adr L 14 0 0)), (3, .ref (adr L 15 0 0)), (4, .ref (adr L 16 0 0)), (5, .ref (adr L 17 0 0)), (6, .int (iI T)), (7, .int (iI x)), (8, .int (iI y))] (by decide) rfl dL_law_426 ?_
                  refine v_iload (pc := 428) C 2 rfl dL_law_428 ?_
                  refine v_iconst (pc := 430) C dL_law_430 ?_
                  refine v_icmp_ne (pc := 431) C 446 ⟨by (first | assumption | omega | (unfold rg; omega)), by (first | assumption | omega | (unfold rg; omega))⟩ ⟨by (first | assumption | omega | (unfold rg; omega)), by (first | assumption | omega | (unfold rg; omega))⟩ (by decide) dL_law_431 (fun h431 => ?_) (fun h431 => ?_)
                  · skip
                    refine v_iload (pc := 446) C 3 rfl dL_law_446 ?_
                    refine v_istore (pc := 448) C [(11, .int (iI ((lw zs_59 19) - 9))), (10, .int (iI (lw y 4))), (9, .int (iI 1)), (12, .int (iI 0)), (0, .ref b), (1, .ref (adr L 0 0 0)), (2, .ref (adr L 14 0 0)), (3, .ref (adr L 15 0 0)), (4, .ref (adr L 16 0 0)), (5, .ref (adr L 17 0 0)), (6, .int (iI T)), (7, .int (iI x)), (8, .int (iI y))] (by decide) rfl dL_law_448 ?_
                    refine v_lsub [4, 5, 6, 7, 8, 9, 10, 11, 12, 2, 1, 0] rfl ?_
                    exact vs_lB hfl C h0 hcE hsE g b T x y 1 (lw y 4) ((lw zs_59 19) - 9) hT hrx hry hJ (by unfold lwH; omega) hE kend
                  · skip
                    exfalso; omega
                · skip
                  exfalso; omega
              · skip
                exfalso; omega
            · skip
              refine v_aload_n (pc := 375) C 4 rfl rfl dL_law_375 ?_
              refine v_iload (pc := 376) C 11 rfl dL_law_376 ?_
              refine v_iconst (pc := 378) C dL_law_378 ?_
              refine v_calliS (pc := 379) C cw_RL_101 (ct_L_low l L g y 4 (by first | assumption | omega | (unfold rg; omega)) (by first | assumption | omega | (unfold rg; omega))) ⟨Nat.le_of_ble_eq_true rfl, Nat.le_of_ble_eq_true rfl⟩ rfl (Nat.le_of_ble_eq_true rfl) ⟨by show _ ≤ 714495; omega, by show _ ≤ 6957984; omega⟩ rfl dL_law_379 (fun r9 u9 hP_63 => ?_)
              have hlw379 := lw_in y (n := 4) (by omega)
              obtain ⟨hP_63, hP_63b⟩ := hP_63
              rw [hP_63, hP_63b]
              clear hP_63 hP_63b r9 u9
              refine v_calliH (pc := 382) C cwh_L_callIn (ct_L_callIn l L g (lw y 4) (by omega) (by exact hK.2.1)) ⟨Nat.le_of_ble_eq_true rfl, Nat.le_of_ble_eq_true rfl⟩ rfl (Nat.le_of_ble_eq_true rfl) ⟨by show _ ≤ 714495; omega, by show _ ≤ 6957984; omega⟩ rfl dL_law_382 (fun r9 u9 hP_64 => ?_)
              obtain ⟨hP_64, hP_64b⟩ := hP_64
              rw [hP_64, hP_64b]
              clear hP_64 hP_64b r9 u9
              refine v_topi (b := mBw (em g) (lw y 4)) C (ci_tie hK.2.2.2.1.1 ⟨by omega, by omega⟩) ?_
              have hmb : -1 ≤ mBw (em g) (lw y 4) ∧ mBw (em g) (lw y 4) ≤ 61 := by (unfold mBw; have := frst_in (mMB (em g) (lw y 4)) 61 0 (by decide); omega)
              refine v_if_ne (pc := 385) C 392 ⟨by (first | assumption | omega | (unfold rg; omega)), by (first | assumption | omega | (unfold rg; omega))⟩ (by decide) dL_law_385 (fun h385 => ?_) (fun h385 => ?_)
              · skip
                refine v_iconst (pc := 392) C dL_law_392 ?_
                refine v_istore (pc := 393) C [(12, .int (iI 0)), (11, .int (iI ((lw zs_59 19) - 9))), (10, .int (iI (lw y 4))), (9, .int (iI 1)), (0, .ref b), (1, .ref (adr L 0 0 0)), (2, .ref (adr L 14 0 0)), (3, .ref (adr L 15 0 0)), (4, .ref (adr L 16 0 0)), (5, .ref (adr L 17 0 0)), (6, .int (iI T)), (7, .int (iI x)), (8, .int (iI y))] (by decide) rfl dL_law_393 ?_
                refine v_iload (pc := 395) C 0 rfl dL_law_395 ?_
                refine v_iconst (pc := 397) C dL_law_397 ?_
                refine v_icmp_ne (pc := 398) C 405 ⟨by (first | assumption | omega | (unfold rg; omega)), by (first | assumption | omega | (unfold rg; omega))⟩ ⟨by (first | assumption | omega | (unfold rg; omega)), by (first | assumption | omega | (unfold rg; omega))⟩ (by decide) dL_law_398 (fun h398 => ?_) (fun h398 => ?_)
                · skip
                  refine v_iload (pc := 405) C 3 rfl dL_law_405 ?_
                  refine v_istore (pc := 407) C [(9, .int (iI 1)), (12, .int (iI 0)), (11, .int (iI ((lw zs_59 19) - 9))), (10, .int (iI (lw y 4))), (0, .ref b), (1, .ref (adr L 0 0 0)), (2, .ref (adr L 14 0 0)), (3, .ref (adr L 15 0 0)), (4, .ref (adr L 16 0 0)), (5, .ref (adr L 17 0 0)), (6, .int (iI T)), (7, .int (iI x)), (8, .int (iI y))] (by decide) rfl dL_law_407 ?_
                  refine v_iload (pc := 409) C 1 rfl dL_law_409 ?_
                  refine v_iconst (pc := 411) C dL_law_411 ?_
                  refine v_icmp_ne (pc := 412) C 424 ⟨by (first | assumption | omega | (unfold rg; omega)), by (first | assumption | omega | (unfold rg; omega))⟩ ⟨by (first | assumption | omega | (unfold rg; omega)), by (first | assumption | omega | (unfold rg; omega))⟩ (by decide) dL_law_412 (fun h412 => ?_) (fun h412 => ?_)
                  · skip
                    refine v_iload (pc := 424) C 3 rfl dL_law_424 ?_
                    refine v_istore (pc := 426) C [(10, .int (iI (lw y 4))), (9, .int (iI 1)), (12, .int (iI 0)), (11, .int (iI ((lw zs_59 19) - 9))), (0, .ref b), (1, .ref (adr L 0 0 0)), (2, .ref (adr L 14 0 0)), (3, .ref (adr L 15 0 0)), (4, .ref (adr L 16 0 0)), (5, .ref (adr L 17 0 0)), (6, .int (iI T)), (7, .int (iI x)), (8, .int (iI y))] (by decide) rfl dL_law_426 ?_
                    refine v_iload (pc := 428) C 2 rfl dL_law_428 ?_
                    refine v_iconst (pc := 430) C dL_law_430 ?_
                    refine v_icmp_ne (pc := 431) C 446 ⟨by (first | assumption | omega | (unfold rg; omega)), by (first | assumption | omega | (unfold rg; omega))⟩ ⟨by (first | assumption | omega | (unfold rg; omega)), by (first | assumption | omega | (unfold rg; omega))⟩ (by decide) dL_law_431 (fun h431 => ?_) (fun h431 => ?_)
                    · skip
                      refine v_iload (pc := 446) C 3 rfl dL_law_446 ?_
                      refine v_istore (pc := 448) C [(11, .int (iI ((lw zs_59 19) - 9))), (10, .int (iI (lw y 4))), (9, .int (iI 1)), (12, .int (iI 0)), (0, .ref b), (1, .ref (adr L 0 0 0)), (2, .ref (adr L 14 0 0)), (3, .ref (adr L 15 0 0)), (4, .ref (adr L 16 0 0)), (5, .ref (adr L 17 0 0)), (6, .int (iI T)), (7, .int (iI x)), (8, .int (iI y))] (by decide) rfl dL_law_448 ?_
                      refine v_lsub [4, 5, 6, 7, 8, 9, 10, 11, 12, 2, 1, 0] rfl ?_
                      exact vs_lB hfl C h0 hcE hsE g b T x y 1 (lw y 4) ((lw zs_59 19) - 9) hT hrx hry hJ (by unfold lwH; omega) hE kend
                    · skip
                      exfalso; omega
                  · skip
                    exfalso; omega
                · skip
                  exfalso; omega
              · skip
                refine v_iconst (pc := 388) C dL_law_388 ?_
                refine v_goto (pc := 389) C 393 (by decide) dL_law_389 ?_
                refine v_istore (pc := 393) C [(12, .int (iI 1)), (11, .int (iI ((lw zs_59 19) - 9))), (10, .int (iI (lw y 4))), (9, .int (iI 1)), (0, .ref b), (1, .ref (adr L 0 0 0)), (2, .ref (adr L 14 0 0)), (3, .ref (adr L 15 0 0)), (4, .ref (adr L 16 0 0)), (5, .ref (adr L 17 0 0)), (6, .int (iI T)), (7, .int (iI x)), (8, .int (iI y))] (by decide) rfl dL_law_393 ?_
                refine v_iload (pc := 395) C 0 rfl dL_law_395 ?_
                refine v_iconst (pc := 397) C dL_law_397 ?_
                refine v_icmp_ne (pc := 398) C 405 ⟨by (first | assumption | omega | (unfold rg; omega)), by (first | assumption | omega | (unfold rg; omega))⟩ ⟨by (first | assumption | omega | (unfold rg; omega)), by (first | assumption | omega | (unfold rg; omega))⟩ (by decide) dL_law_398 (fun h398 => ?_) (fun h398 => ?_)
                · skip
                  exfalso; omega
                · skip
                  refine v_iconst (pc := 401) C dL_law_401 ?_
                  refine v_goto (pc := 402) C 407 (by decide) dL_law_402 ?_
                  refine v_istore (pc := 407) C [(9, .int (iI 0)), (12, .int (iI 1)), (11, .int (iI ((lw zs_59 19) - 9))), (10, .int (iI (lw y 4))), (0, .ref b), (1, .ref (adr L 0 0 0)), (2, .ref (adr L 14 0 0)), (3, .ref (adr L 15 0 0)), (4, .ref (adr L 16 0 0)), (5, .ref (adr L 17 0 0)), (6, .int (iI T)), (7, .int (iI x)), (8, .int (iI y))] (by decide) rfl dL_law_407 ?_
                  refine v_iload (pc := 409) C 1 rfl dL_law_409 ?_
                  refine v_iconst (pc := 411) C dL_law_411 ?_
                  refine v_icmp_ne (pc := 412) C 424 ⟨by (first | assumption | omega | (unfold rg; omega)), by (first | assumption | omega | (unfold rg; omega))⟩ ⟨by (first | assumption | omega | (unfold rg; omega)), by (first | assumption | omega | (unfold rg; omega))⟩ (by decide) dL_law_412 (fun h412 => ?_) (fun h412 => ?_)
                  · skip
                    exfalso; omega
                  · skip
                    refine v_iload (pc := 415) C 12 rfl dL_law_415 ?_
                    refine v_iconst (pc := 417) C dL_law_417 ?_
                    refine v_calliS (pc := 418) C cw_RL_101 (ct_L_low l L g y 4 (by first | assumption | omega | (unfold rg; omega)) (by first | assumption | omega | (unfold rg; omega))) ⟨Nat.le_of_ble_eq_true rfl, Nat.le_of_ble_eq_true rfl⟩ rfl (Nat.le_of_ble_eq_true rfl) ⟨by show _ ≤ 714495; omega, by show _ ≤ 6957984; omega⟩ rfl dL_law_418 (fun r9 u9 hP_65 => ?_)
                    have hlw418 := lw_in y (n := 4) (by omega)
                    obtain ⟨hP_65, hP_65b⟩ := hP_65
                    rw [hP_65, hP_65b]
                    clear hP_65 hP_65b r9 u9
                    refine v_goto (pc := 421) C 426 (by decide) dL_law_421 ?_
                    refine v_istore (pc := 426) C [(10, .int (iI (lw y 4))), (9, .int (iI 0)), (12, .int (iI 1)), (11, .int (iI ((lw zs_59 19) - 9))), (0, .ref b), (1, .ref (adr L 0 0 0)), (2, .ref (adr L 14 0 0)), (3, .ref (adr L 15 0 0)), (4, .ref (adr L 16 0 0)), (5, .ref (adr L 17 0 0)), (6, .int (iI T)), (7, .int (iI x)), (8, .int (iI y))] (by decide) rfl dL_law_426 ?_
                    refine v_iload (pc := 428) C 2 rfl dL_law_428 ?_
                    refine v_iconst (pc := 430) C dL_law_430 ?_
                    refine v_icmp_ne (pc := 431) C 446 ⟨by (first | assumption | omega | (unfold rg; omega)), by (first | assumption | omega | (unfold rg; omega))⟩ ⟨by (first | assumption | omega | (unfold rg; omega)), by (first | assumption | omega | (unfold rg; omega))⟩ (by decide) dL_law_431 (fun h431 => ?_) (fun h431 => ?_)
                    · skip
                      exfalso; omega
                    · skip
                      refine v_iload (pc := 434) C 12 rfl dL_law_434 ?_
                      refine v_iconst (pc := 436) C dL_law_436 ?_
                      refine v_ishrz (pc := 437) C dL_law_437 (fun zs_66 hzs_66 => ?_)
                      refine v_bipush (pc := 438) C rfl dL_law_438 ?_
                      refine v_calliS (pc := 440) C cw_RL_101 (ct_L_low l L g zs_66 10 (by first | assumption | omega | (unfold rg; omega)) (by first | assumption | omega | (unfold rg; omega))) ⟨Nat.le_of_ble_eq_true rfl, Nat.le_of_ble_eq_true rfl⟩ rfl (Nat.le_of_ble_eq_true rfl) ⟨by show _ ≤ 714495; omega, by show _ ≤ 6957984; omega⟩ rfl dL_law_440 (fun r9 u9 hP_67 => ?_)
                      have hlw440 := lw_in zs_66 (n := 10) (by omega)
                      obtain ⟨hP_67, hP_67b⟩ := hP_67
                      rw [hP_67, hP_67b]
                      clear hP_67 hP_67b r9 u9
                      refine v_goto (pc := 443) C 448 (by decide) dL_law_443 ?_
                      refine v_istore (pc := 448) C [(11, .int (iI (lw zs_66 10))), (10, .int (iI (lw y 4))), (9, .int (iI 0)), (12, .int (iI 1)), (0, .ref b), (1, .ref (adr L 0 0 0)), (2, .ref (adr L 14 0 0)), (3, .ref (adr L 15 0 0)), (4, .ref (adr L 16 0 0)), (5, .ref (adr L 17 0 0)), (6, .int (iI T)), (7, .int (iI x)), (8, .int (iI y))] (by decide) rfl dL_law_448 ?_
                      refine v_lsub [4, 5, 6, 7, 8, 9, 10, 11, 12, 2, 1, 0] rfl ?_
                      exact vs_lB hfl C h0 hcE hsE g b T x y 0 (lw y 4) (lw zs_66 10) hT hrx hry hJ (by unfold lwH; omega) hE kend
        · skip
          exfalso; omega
  · skip
    refine v_iconst (pc := 128) C dL_law_128 ?_
    refine v_goto (pc := 129) C 166 (by decide) dL_law_129 ?_
    refine v_istore (pc := 166) C [(9, .int (iI 0)), (0, .ref b), (1, .ref (adr L 0 0 0)), (2, .ref (adr L 14 0 0)), (3, .ref (adr L 15 0 0)), (4, .ref (adr L 16 0 0)), (5, .ref (adr L 17 0 0)), (6, .int (iI T)), (7, .int (iI x)), (8, .int (iI y))] (by decide) rfl dL_law_166 ?_
    refine v_iload (pc := 168) C 0 rfl dL_law_168 ?_
    refine v_iconst (pc := 170) C dL_law_170 ?_
    refine v_icmp_ge (pc := 171) C 183 ⟨by (first | assumption | omega | (unfold rg; omega)), by (first | assumption | omega | (unfold rg; omega))⟩ ⟨by (first | assumption | omega | (unfold rg; omega)), by (first | assumption | omega | (unfold rg; omega))⟩ (by decide) dL_law_171 (fun h171 => ?_) (fun h171 => ?_)
    · skip
      exfalso; omega
    · skip
      refine v_iload (pc := 174) C 9 rfl dL_law_174 ?_
      refine v_iconst (pc := 176) C dL_law_176 ?_
      refine v_calliS (pc := 177) C cw_RL_101 (ct_L_low l L g y 4 (by first | assumption | omega | (unfold rg; omega)) (by first | assumption | omega | (unfold rg; omega))) ⟨Nat.le_of_ble_eq_true rfl, Nat.le_of_ble_eq_true rfl⟩ rfl (Nat.le_of_ble_eq_true rfl) ⟨by show _ ≤ 714495; omega, by show _ ≤ 6957984; omega⟩ rfl dL_law_177 (fun r9 u9 hP_68 => ?_)
      have hlw177 := lw_in y (n := 4) (by omega)
      obtain ⟨hP_68, hP_68b⟩ := hP_68
      rw [hP_68, hP_68b]
      clear hP_68 hP_68b r9 u9
      refine v_goto (pc := 180) C 243 (by decide) dL_law_180 ?_
      refine v_istore (pc := 243) C [(10, .int (iI (lw y 4))), (9, .int (iI 0)), (0, .ref b), (1, .ref (adr L 0 0 0)), (2, .ref (adr L 14 0 0)), (3, .ref (adr L 15 0 0)), (4, .ref (adr L 16 0 0)), (5, .ref (adr L 17 0 0)), (6, .int (iI T)), (7, .int (iI x)), (8, .int (iI y))] (by decide) rfl dL_law_243 ?_
      refine v_iload (pc := 245) C 1 rfl dL_law_245 ?_
      refine v_if_ne (pc := 247) C 262 ⟨by (first | assumption | omega | (unfold rg; omega)), by (first | assumption | omega | (unfold rg; omega))⟩ (by decide) dL_law_247 (fun h247 => ?_) (fun h247 => ?_)
      · skip
        exfalso; omega
      · skip
        refine v_iload (pc := 250) C 10 rfl dL_law_250 ?_
        refine v_iconst (pc := 252) C dL_law_252 ?_
        refine v_ishrz (pc := 253) C dL_law_253 (fun zs_69 hzs_69 => ?_)
        refine v_bipush (pc := 254) C rfl dL_law_254 ?_
        refine v_calliS (pc := 256) C cw_RL_101 (ct_L_low l L g zs_69 10 (by first | assumption | omega | (unfold rg; omega)) (by first | assumption | omega | (unfold rg; omega))) ⟨Nat.le_of_ble_eq_true rfl, Nat.le_of_ble_eq_true rfl⟩ rfl (Nat.le_of_ble_eq_true rfl) ⟨by show _ ≤ 714495; omega, by show _ ≤ 6957984; omega⟩ rfl dL_law_256 (fun r9 u9 hP_70 => ?_)
        have hlw256 := lw_in zs_69 (n := 10) (by omega)
        obtain ⟨hP_70, hP_70b⟩ := hP_70
        rw [hP_70, hP_70b]
        clear hP_70 hP_70b r9 u9
        refine v_goto (pc := 259) C 361 (by decide) dL_law_259 ?_
        refine v_istore (pc := 361) C [(11, .int (iI (lw zs_69 10))), (10, .int (iI (lw y 4))), (9, .int (iI 0)), (0, .ref b), (1, .ref (adr L 0 0 0)), (2, .ref (adr L 14 0 0)), (3, .ref (adr L 15 0 0)), (4, .ref (adr L 16 0 0)), (5, .ref (adr L 17 0 0)), (6, .int (iI T)), (7, .int (iI x)), (8, .int (iI y))] (by decide) rfl dL_law_361 ?_
        refine v_iload (pc := 363) C 10 rfl dL_law_363 ?_
        refine v_bipush (pc := 365) C rfl dL_law_365 ?_
        refine v_ishrz (pc := 367) C dL_law_367 (fun zs_71 hzs_71 => ?_)
        refine v_iconst (pc := 368) C dL_law_368 ?_
        refine v_calliS (pc := 369) C cw_RL_101 (ct_L_low l L g zs_71 3 (by first | assumption | omega | (unfold rg; omega)) (by first | assumption | omega | (unfold rg; omega))) ⟨Nat.le_of_ble_eq_true rfl, Nat.le_of_ble_eq_true rfl⟩ rfl (Nat.le_of_ble_eq_true rfl) ⟨by show _ ≤ 714495; omega, by show _ ≤ 6957984; omega⟩ rfl dL_law_369 (fun r9 u9 hP_72 => ?_)
        have hlw369 := lw_in zs_71 (n := 3) (by omega)
        obtain ⟨hP_72, hP_72b⟩ := hP_72
        rw [hP_72, hP_72b]
        clear hP_72 hP_72b r9 u9
        refine v_if_ne (pc := 372) C 392 ⟨by (first | assumption | omega | (unfold rg; omega)), by (first | assumption | omega | (unfold rg; omega))⟩ (by decide) dL_law_372 (fun h372 => ?_) (fun h372 => ?_)
        · skip
          refine v_iconst (pc := 392) C dL_law_392 ?_
          refine v_istore (pc := 393) C [(12, .int (iI 0)), (11, .int (iI (lw zs_69 10))), (10, .int (iI (lw y 4))), (9, .int (iI 0)), (0, .ref b), (1, .ref (adr L 0 0 0)), (2, .ref (adr L 14 0 0)), (3, .ref (adr L 15 0 0)), (4, .ref (adr L 16 0 0)), (5, .ref (adr L 17 0 0)), (6, .int (iI T)), (7, .int (iI x)), (8, .int (iI y))] (by decide) rfl dL_law_393 ?_
          refine v_iload (pc := 395) C 0 rfl dL_law_395 ?_
          refine v_iconst (pc := 397) C dL_law_397 ?_
          refine v_icmp_ne (pc := 398) C 405 ⟨by (first | assumption | omega | (unfold rg; omega)), by (first | assumption | omega | (unfold rg; omega))⟩ ⟨by (first | assumption | omega | (unfold rg; omega)), by (first | assumption | omega | (unfold rg; omega))⟩ (by decide) dL_law_398 (fun h398 => ?_) (fun h398 => ?_)
          · skip
            refine v_iload (pc := 405) C 3 rfl dL_law_405 ?_
            refine v_istore (pc := 407) C [(9, .int (iI 0)), (12, .int (iI 0)), (11, .int (iI (lw zs_69 10))), (10, .int (iI (lw y 4))), (0, .ref b), (1, .ref (adr L 0 0 0)), (2, .ref (adr L 14 0 0)), (3, .ref (adr L 15 0 0)), (4, .ref (adr L 16 0 0)), (5, .ref (adr L 17 0 0)), (6, .int (iI T)), (7, .int (iI x)), (8, .int (iI y))] (by decide) rfl dL_law_407 ?_
            refine v_iload (pc := 409) C 1 rfl dL_law_409 ?_
            refine v_iconst (pc := 411) C dL_law_411 ?_
            refine v_icmp_ne (pc := 412) C 424 ⟨by (first | assumption | omega | (unfold rg; omega)), by (first | assumption | omega | (unfold rg; omega))⟩ ⟨by (first | assumption | omega | (unfold rg; omega)), by (first | assumption | omega | (unfold rg; omega))⟩ (by decide) dL_law_412 (fun h412 => ?_) (fun h412 => ?_)
            · skip
              refine v_iload (pc := 424) C 3 rfl dL_law_424 ?_
              refine v_istore (pc := 426) C [(10, .int (iI (lw y 4))), (9, .int (iI 0)), (12, .int (iI 0)), (11, .int (iI (lw zs_69 10))), (0, .ref b), (1, .ref (adr L 0 0 0)), (2, .ref (adr L 14 0 0)), (3, .ref (adr L 15 0 0)), (4, .ref (adr L 16 0 0)), (5, .ref (adr L 17 0 0)), (6, .int (iI T)), (7, .int (iI x)), (8, .int (iI y))] (by decide) rfl dL_law_426 ?_
              refine v_iload (pc := 428) C 2 rfl dL_law_428 ?_
              refine v_iconst (pc := 430) C dL_law_430 ?_
              refine v_icmp_ne (pc := 431) C 446 ⟨by (first | assumption | omega | (unfold rg; omega)), by (first | assumption | omega | (unfold rg; omega))⟩ ⟨by (first | assumption | omega | (unfold rg; omega)), by (first | assumption | omega | (unfold rg; omega))⟩ (by decide) dL_law_431 (fun h431 => ?_) (fun h431 => ?_)
              · skip
                refine v_iload (pc := 446) C 3 rfl dL_law_446 ?_
                refine v_istore (pc := 448) C [(11, .int (iI (lw zs_69 10))), (10, .int (iI (lw y 4))), (9, .int (iI 0)), (12, .int (iI 0)), (0, .ref b), (1, .ref (adr L 0 0 0)), (2, .ref (adr L 14 0 0)), (3, .ref (adr L 15 0 0)), (4, .ref (adr L 16 0 0)), (5, .ref (adr L 17 0 0)), (6, .int (iI T)), (7, .int (iI x)), (8, .int (iI y))] (by decide) rfl dL_law_448 ?_
                refine v_lsub [4, 5, 6, 7, 8, 9, 10, 11, 12, 2, 1, 0] rfl ?_
                exact vs_lB hfl C h0 hcE hsE g b T x y 0 (lw y 4) (lw zs_69 10) hT hrx hry hJ (by unfold lwH; omega) hE kend
              · skip
                exfalso; omega
            · skip
              exfalso; omega
          · skip
            exfalso; omega
        · skip
          refine v_aload_n (pc := 375) C 4 rfl rfl dL_law_375 ?_
          refine v_iload (pc := 376) C 11 rfl dL_law_376 ?_
          refine v_iconst (pc := 378) C dL_law_378 ?_
          refine v_calliS (pc := 379) C cw_RL_101 (ct_L_low l L g y 4 (by first | assumption | omega | (unfold rg; omega)) (by first | assumption | omega | (unfold rg; omega))) ⟨Nat.le_of_ble_eq_true rfl, Nat.le_of_ble_eq_true rfl⟩ rfl (Nat.le_of_ble_eq_true rfl) ⟨by show _ ≤ 714495; omega, by show _ ≤ 6957984; omega⟩ rfl dL_law_379 (fun r9 u9 hP_73 => ?_)
          have hlw379 := lw_in y (n := 4) (by omega)
          obtain ⟨hP_73, hP_73b⟩ := hP_73
          rw [hP_73, hP_73b]
          clear hP_73 hP_73b r9 u9
          refine v_calliH (pc := 382) C cwh_L_callIn (ct_L_callIn l L g (lw y 4) (by omega) (by exact hK.2.1)) ⟨Nat.le_of_ble_eq_true rfl, Nat.le_of_ble_eq_true rfl⟩ rfl (Nat.le_of_ble_eq_true rfl) ⟨by show _ ≤ 714495; omega, by show _ ≤ 6957984; omega⟩ rfl dL_law_382 (fun r9 u9 hP_74 => ?_)
          obtain ⟨hP_74, hP_74b⟩ := hP_74
          rw [hP_74, hP_74b]
          clear hP_74 hP_74b r9 u9
          refine v_topi (b := mBw (em g) (lw y 4)) C (ci_tie hK.2.2.2.1.1 ⟨by omega, by omega⟩) ?_
          have hmb : -1 ≤ mBw (em g) (lw y 4) ∧ mBw (em g) (lw y 4) ≤ 61 := by (unfold mBw; have := frst_in (mMB (em g) (lw y 4)) 61 0 (by decide); omega)
          refine v_if_ne (pc := 385) C 392 ⟨by (first | assumption | omega | (unfold rg; omega)), by (first | assumption | omega | (unfold rg; omega))⟩ (by decide) dL_law_385 (fun h385 => ?_) (fun h385 => ?_)
          · skip
            refine v_iconst (pc := 392) C dL_law_392 ?_
            refine v_istore (pc := 393) C [(12, .int (iI 0)), (11, .int (iI (lw zs_69 10))), (10, .int (iI (lw y 4))), (9, .int (iI 0)), (0, .ref b), (1, .ref (adr L 0 0 0)), (2, .ref (adr L 14 0 0)), (3, .ref (adr L 15 0 0)), (4, .ref (adr L 16 0 0)), (5, .ref (adr L 17 0 0)), (6, .int (iI T)), (7, .int (iI x)), (8, .int (iI y))] (by decide) rfl dL_law_393 ?_
            refine v_iload (pc := 395) C 0 rfl dL_law_395 ?_
            refine v_iconst (pc := 397) C dL_law_397 ?_
            refine v_icmp_ne (pc := 398) C 405 ⟨by (first | assumption | omega | (unfold rg; omega)), by (first | assumption | omega | (unfold rg; omega))⟩ ⟨by (first | assumption | omega | (unfold rg; omega)), by (first | assumption | omega | (unfold rg; omega))⟩ (by decide) dL_law_398 (fun h398 => ?_) (fun h398 => ?_)
            · skip
              refine v_iload (pc := 405) C 3 rfl dL_law_405 ?_
              refine v_istore (pc := 407) C [(9, .int (iI 0)), (12, .int (iI 0)), (11, .int (iI (lw zs_69 10))), (10, .int (iI (lw y 4))), (0, .ref b), (1, .ref (adr L 0 0 0)), (2, .ref (adr L 14 0 0)), (3, .ref (adr L 15 0 0)), (4, .ref (adr L 16 0 0)), (5, .ref (adr L 17 0 0)), (6, .int (iI T)), (7, .int (iI x)), (8, .int (iI y))] (by decide) rfl dL_law_407 ?_
              refine v_iload (pc := 409) C 1 rfl dL_law_409 ?_
              refine v_iconst (pc := 411) C dL_law_411 ?_
              refine v_icmp_ne (pc := 412) C 424 ⟨by (first | assumption | omega | (unfold rg; omega)), by (first | assumption | omega | (unfold rg; omega))⟩ ⟨by (first | assumption | omega | (unfold rg; omega)), by (first | assumption | omega | (unfold rg; omega))⟩ (by decide) dL_law_412 (fun h412 => ?_) (fun h412 => ?_)
              · skip
                refine v_iload (pc := 424) C 3 rfl dL_law_424 ?_
                refine v_istore (pc := 426) C [(10, .int (iI (lw y 4))), (9, .int (iI 0)), (12, .int (iI 0)), (11, .int (iI (lw zs_69 10))), (0, .ref b), (1, .ref (adr L 0 0 0)), (2, .ref (adr L 14 0 0)), (3, .ref (adr L 15 0 0)), (4, .ref (adr L 16 0 0)), (5, .ref (adr L 17 0 0)), (6, .int (iI T)), (7, .int (iI x)), (8, .int (iI y))] (by decide) rfl dL_law_426 ?_
                refine v_iload (pc := 428) C 2 rfl dL_law_428 ?_
                refine v_iconst (pc := 430) C dL_law_430 ?_
                refine v_icmp_ne (pc := 431) C 446 ⟨by (first | assumption | omega | (unfold rg; omega)), by (first | assumption | omega | (unfold rg; omega))⟩ ⟨by (first | assumption | omega | (unfold rg; omega)), by (first | assumption | omega | (unfold rg; omega))⟩ (by decide) dL_law_431 (fun h431 => ?_) (fun h431 => ?_)
                · skip
                  refine v_iload (pc := 446) C 3 rfl dL_law_446 ?_
                  refine v_istore (pc := 448) C [(11, .int (iI (lw zs_69 10))), (10, .int (iI (lw y 4))), (9, .int (iI 0)), (12, .int (iI 0)), (0, .ref b), (1, .ref (adr L 0 0 0)), (2, .ref (adr L 14 0 0)), (3, .ref (adr L 15 0 0)), (4, .ref (adr L 16 0 0)), (5, .ref (adr L 17 0 0)), (6, .int (iI T)), (7, .int (iI x)), (8, .int (iI y))] (by decide) rfl dL_law_448 ?_
                  refine v_lsub [4, 5, 6, 7, 8, 9, 10, 11, 12, 2, 1, 0] rfl ?_
                  exact vs_lB hfl C h0 hcE hsE g b T x y 0 (lw y 4) (lw zs_69 10) hT hrx hry hJ (by unfold lwH; omega) hE kend
                · skip
                  exfalso; omega
              · skip
                exfalso; omega
            · skip
              exfalso; omega
          · skip
            refine v_iconst (pc := 388) C dL_law_388 ?_
            refine v_goto (pc := 389) C 393 (by decide) dL_law_389 ?_
            refine v_istore (pc := 393) C [(12, .int (iI 1)), (11, .int (iI (lw zs_69 10))), (10, .int (iI (lw y 4))), (9, .int (iI 0)), (0, .ref b), (1, .ref (adr L 0 0 0)), (2, .ref (adr L 14 0 0)), (3, .ref (adr L 15 0 0)), (4, .ref (adr L 16 0 0)), (5, .ref (adr L 17 0 0)), (6, .int (iI T)), (7, .int (iI x)), (8, .int (iI y))] (by decide) rfl dL_law_393 ?_
            refine v_iload (pc := 395) C 0 rfl dL_law_395 ?_
            refine v_iconst (pc := 397) C dL_law_397 ?_
            refine v_icmp_ne (pc := 398) C 405 ⟨by (first | assumption | omega | (unfold rg; omega)), by (first | assumption | omega | (unfold rg; omega))⟩ ⟨by (first | assumption | omega | (unfold rg; omega)), by (first | assumption | omega | (unfold rg; omega))⟩ (by decide) dL_law_398 (fun h398 => ?_) (fun h398 => ?_)
            · skip
              exfalso; omega
            · skip
              refine v_iconst (pc := 401) C dL_law_401 ?_
              refine v_goto (pc := 402) C 407 (by decide) dL_law_402 ?_
              refine v_istore (pc := 407) C [(9, .int (iI 0)), (12, .int (iI 1)), (11, .int (iI (lw zs_69 10))), (10, .int (iI (lw y 4))), (0, .ref b), (1, .ref (adr L 0 0 0)), (2, .ref (adr L 14 0 0)), (3, .ref (adr L 15 0 0)), (4, .ref (adr L 16 0 0)), (5, .ref (adr L 17 0 0)), (6, .int (iI T)), (7, .int (iI x)), (8, .int (iI y))] (by decide) rfl dL_law_407 ?_
              refine v_iload (pc := 409) C 1 rfl dL_law_409 ?_
              refine v_iconst (pc := 411) C dL_law_411 ?_
              refine v_icmp_ne (pc := 412) C 424 ⟨by (first | assumption | omega | (unfold rg; omega)), by (first | assumption | omega | (unfold rg; omega))⟩ ⟨by (first | assumption | omega | (unfold rg; omega)), by (first | assumption | omega | (unfold rg; omega))⟩ (by decide) dL_law_412 (fun h412 => ?_) (fun h412 => ?_)
              · skip
                exfalso; omega
              · skip
                refine v_iload (pc := 415) C 12 rfl dL_law_415 ?_
                refine v_iconst (pc := 417) C dL_law_417 ?_
                refine v_calliS (pc := 418) C cw_RL_101 (ct_L_low l L g y 4 (by first | assumption | omega | (unfold rg; omega)) (by first | assumption | omega | (unfold rg; omega))) ⟨Nat.le_of_ble_eq_true rfl, Nat.le_of_ble_eq_true rfl⟩ rfl (Nat.le_of_ble_eq_true rfl) ⟨by show _ ≤ 714495; omega, by show _ ≤ 6957984; omega⟩ rfl dL_law_418 (fun r9 u9 hP_75 => ?_)
                have hlw418 := lw_in y (n := 4) (by omega)
                obtain ⟨hP_75, hP_75b⟩ := hP_75
                rw [hP_75, hP_75b]
                clear hP_75 hP_75b r9 u9
                refine v_goto (pc := 421) C 426 (by decide) dL_law_421 ?_
                refine v_istore (pc := 426) C [(10, .int (iI (lw y 4))), (9, .int (iI 0)), (12, .int (iI 1)), (11, .int (iI (lw zs_69 10))), (0, .ref b), (1, .ref (adr L 0 0 0)), (2, .ref (adr L 14 0 0)), (3, .ref (adr L 15 0 0)), (4, .ref (adr L 16 0 0)), (5, .ref (adr L 17 0 0)), (6, .int (iI T)), (7, .int (iI x)), (8, .int (iI y))] (by decide) rfl dL_law_426 ?_
                refine v_iload (pc := 428) C 2 rfl dL_law_428 ?_
                refine v_iconst (pc := 430) C dL_law_430 ?_
                refine v_icmp_ne (pc := 431) C 446 ⟨by (first | assumption | omega | (unfold rg; omega)), by (first | assumption | omega | (unfold rg; omega))⟩ ⟨by (first | assumption | omega | (unfold rg; omega)), by (first | assumption | omega | (unfold rg; omega))⟩ (by decide) dL_law_431 (fun h431 => ?_) (fun h431 => ?_)
                · skip
                  exfalso; omega
                · skip
                  refine v_iload (pc := 434) C 12 rfl dL_law_434 ?_
                  refine v_iconst (pc := 436) C dL_law_436 ?_
                  refine v_ishrz (pc := 437) C dL_law_437 (fun zs_76 hzs_76 => ?_)
                  refine v_bipush (pc := 438) C rfl dL_law_438 ?_
                  refine v_calliS (pc := 440) C cw_RL_101 (ct_L_low l L g zs_76 10 (by first | assumption | omega | (unfold rg; omega)) (by first | assumption | omega | (unfold rg; omega))) ⟨Nat.le_of_ble_eq_true rfl, Nat.le_of_ble_eq_true rfl⟩ rfl (Nat.le_of_ble_eq_true rfl) ⟨by show _ ≤ 714495; omega, by show _ ≤ 6957984; omega⟩ rfl dL_law_440 (fun r9 u9 hP_77 => ?_)
                  have hlw440 := lw_in zs_76 (n := 10) (by omega)
                  obtain ⟨hP_77, hP_77b⟩ := hP_77
                  rw [hP_77, hP_77b]
                  clear hP_77 hP_77b r9 u9
                  refine v_goto (pc := 443) C 448 (by decide) dL_law_443 ?_
                  refine v_istore (pc := 448) C [(11, .int (iI (lw zs_76 10))), (10, .int (iI (lw y 4))), (9, .int (iI 0)), (12, .int (iI 1)), (0, .ref b), (1, .ref (adr L 0 0 0)), (2, .ref (adr L 14 0 0)), (3, .ref (adr L 15 0 0)), (4, .ref (adr L 16 0 0)), (5, .ref (adr L 17 0 0)), (6, .int (iI T)), (7, .int (iI x)), (8, .int (iI y))] (by decide) rfl dL_law_448 ?_
                  refine v_lsub [4, 5, 6, 7, 8, 9, 10, 11, 12, 2, 1, 0] rfl ?_
                  exact vs_lB hfl C h0 hcE hsE g b T x y 0 (lw y 4) (lw zs_76 10) hT hrx hry hJ (by unfold lwH; omega) hE kend
