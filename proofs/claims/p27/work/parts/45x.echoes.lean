
theorem cw_RL_123 : CW RL 123 RX6 yX6_quietIn cX6_quietIn 1 (some .int) 0 := ⟨u_17_17, u_17_18, u_17_19, u_1_2, u_17_20, by decide +kernel⟩
set_option maxHeartbeats 4000000 in
set_option maxRecDepth 100000 in
theorem ct_L_areEchoes (l : Launch) (L : Lay) (g : St) (hq : wq g 1) (hw : wf g 0 1) (hT : tieS g 0 (em g)) : Met l yL_areEchoes (.code yL_areEchoes cL_areEchoes 10 (some .boolean) :: wsL_law) { frames := 7, cells := 0, slots := 0, locals := 153 } (va_Pc [.ref (adr L 0 0 0), .ref (adr L 14 0 0), .ref (adr L 16 0 0), .ref (adr L 17 0 0)] (HS L g)) (va_Qi (fun (r9 : Int32) (u9 : St) => r9 = iI 1 ∧ u9 = g) (fun u t => HS L u t) (Af L)) 0 0 (Af L) := by
  refine ct_mk (by decide +kernel) (Nat.le_of_ble_eq_true rfl) ?_
  intro pp ee ss mm bel mth cx C hr hlk
  show V pp l ee { frames := 7, cells := 0, slots := 0, locals := 153 } ss mm ([.ref (adr L 0 0 0), .ref (adr L 14 0 0), .ref (adr L 16 0 0), .ref (adr L 17 0 0)]).toArray bel mth cx 10 L (HH L g) 0 0 _ 0 [(0, .ref (adr L 0 0 0)), (1, .ref (adr L 14 0 0)), (2, .ref (adr L 16 0 0)), (3, .ref (adr L 17 0 0))] []
  obtain ⟨qS0, qS1, qS2, qB0, qB1, qCl, qN, qPl, qEc⟩ := wq_s hq
  have heR := wq_eR hq (by decide)
  have hn9 := tieS_n hw hT
  rw [em_q (by decide) (by decide)] at hn9
  have e9 := em_q (g := g) (x := 9) (by decide) (by decide)
  refine v_aload_n (pc := 0) C 1 rfl rfl dL_areEchoes_0 ?_
  refine v_iconst (pc := 1) C dL_areEchoes_1 ?_
  refine al_14 (pc := 2) C ⟨by (first | assumption | omega | (unfold rg; omega)), by (first | assumption | omega | (unfold rg; omega))⟩ dL_areEchoes_2 (g 14 0 0 3) (rfl) ?_
  refine v_istore (pc := 3) C [(4, .int (iI (g 14 0 0 3))), (0, .ref (adr L 0 0 0)), (1, .ref (adr L 14 0 0)), (2, .ref (adr L 16 0 0)), (3, .ref (adr L 17 0 0))] (by decide) rfl dL_areEchoes_3 ?_
  refine v_iconst (pc := 5) C dL_areEchoes_5 ?_
  refine v_istore (pc := 6) C [(5, .int (iI (-1))), (4, .int (iI (g 14 0 0 3))), (0, .ref (adr L 0 0 0)), (1, .ref (adr L 14 0 0)), (2, .ref (adr L 16 0 0)), (3, .ref (adr L 17 0 0))] (by decide) rfl dL_areEchoes_6 ?_
  refine v_iconst (pc := 8) C dL_areEchoes_8 ?_
  refine v_istore (pc := 9) C [(6, .int (iI 0)), (5, .int (iI (-1))), (4, .int (iI (g 14 0 0 3))), (0, .ref (adr L 0 0 0)), (1, .ref (adr L 14 0 0)), (2, .ref (adr L 16 0 0)), (3, .ref (adr L 17 0 0))] (by decide) rfl dL_areEchoes_9 ?_
  have lb11 : ∀ (n9 : Nat) (r : Int) (a : Int) (b : Int), (0 ≤ r ∧ r ≤ g 14 0 0 9) → (0 ≤ a ∧ a ≤ 200000) → (-1 ≤ b ∧ b < 24) → (rkI g r a b) → (r = g 14 0 0 9 → mQu (em g) = a) → (g 14 0 0 9 - r).toNat < n9 → V pp l ee { frames := 7, cells := 0, slots := 0, locals := 153 } ss mm ([.ref (adr L 0 0 0), .ref (adr L 14 0 0), .ref (adr L 16 0 0), .ref (adr L 17 0 0)]).toArray bel mth cx 10 L (HH L g) 0 0 (MQ bel (va_Qi (fun (r9 : Int32) (u9 : St) => r9 = iI 1 ∧ u9 = g) (fun u t => HS L u t) (Af L)) ([.ref (adr L 0 0 0), .ref (adr L 14 0 0), .ref (adr L 16 0 0), .ref (adr L 17 0 0)]).toArray ss 0 0 (Af L)) 11 [(0, .ref (adr L 0 0 0)), (1, .ref (adr L 14 0 0)), (2, .ref (adr L 16 0 0)), (3, .ref (adr L 17 0 0)), (4, .int (iI a)), (5, .int (iI b)), (6, .int (iI r))] [] := by
    intro n9
    induction n9 with
    | zero => intro r a b hrk ha hb hI hqu hm9; exact absurd hm9 (Nat.not_lt_zero _)
    | succ n9 ih9 =>
      intro r a b hrk ha hb hI hqu hm9
      have ih11 := ih9
      refine v_iload (pc := 11) C 6 rfl dL_areEchoes_11 ?_
      refine v_aload_n (pc := 13) C 1 rfl rfl dL_areEchoes_13 ?_
      refine v_bipush (pc := 14) C rfl dL_areEchoes_14 ?_
      refine al_14 (pc := 16) C ⟨by (first | assumption | omega | (unfold rg; omega)), by (first | assumption | omega | (unfold rg; omega))⟩ dL_areEchoes_16 (g 14 0 0 9) (rfl) ?_
      refine v_icmp_ge (pc := 17) C 262 ⟨by (first | assumption | omega | (unfold rg; omega)), by (first | assumption | omega | (unfold rg; omega))⟩ ⟨by (first | assumption | omega | (unfold rg; omega)), by (first | assumption | omega | (unfold rg; omega))⟩ (by decide) dL_areEchoes_17 (fun h17 => ?_) (fun h17 => ?_)
      · skip
        have hrn : r = g 14 0 0 9 := by omega
        have tq : cqu g = a - g 14 0 0 3 := by rw [qu_tie hw hT.1, hqu hrn, em_q (by decide) (by decide)]
        have tn : ecN g 0 (g 14 0 0 9) 0 = -1 := by unfold ecN; rw [if_pos (Or.inr (by omega))]
        have tc : ctN g 4 = g 14 0 0 9 := by unfold ctN nbN; rw [if_neg (by decide), if_neg (by decide), if_neg (by decide), if_neg (by decide), if_neg (by decide), if_pos rfl]; exact hn9
        refine v_aload_n (pc := 262) C 0 rfl rfl dL_areEchoes_262 ?_
        refine v_calliV (pc := 263) C cw_RL_123 rcv_0 (ct_X6_quietIn l L g (by first | assumption | omega | (unfold rg; omega))) ⟨Nat.le_of_ble_eq_true rfl, Nat.le_of_ble_eq_true rfl⟩ rfl (Nat.le_of_ble_eq_true rfl) ⟨Nat.le_of_ble_eq_true rfl, Nat.le_of_ble_eq_true rfl⟩ rfl dL_areEchoes_263 (fun r9 u9 hP_1 => ?_)
        obtain ⟨hP_1, hP_1b⟩ := hP_1
        rw [hP_1, hP_1b]
        clear hP_1 hP_1b r9 u9
        refine v_topi (b := cqu g) C (rfl) ?_
        refine v_iload (pc := 266) C 4 rfl dL_areEchoes_266 ?_
        refine v_aload_n (pc := 268) C 1 rfl rfl dL_areEchoes_268 ?_
        refine v_iconst (pc := 269) C dL_areEchoes_269 ?_
        refine al_14 (pc := 270) C ⟨by (first | assumption | omega | (unfold rg; omega)), by (first | assumption | omega | (unfold rg; omega))⟩ dL_areEchoes_270 (g 14 0 0 3) (rfl) ?_
        refine v_isub (pc := 271) C dL_areEchoes_271 ?_
        refine v_icmp_ne (pc := 272) C 304 ⟨by (first | assumption | omega | (unfold rg; omega)), by (first | assumption | omega | (unfold rg; omega))⟩ ⟨by (first | assumption | omega | (unfold rg; omega)), by (first | assumption | omega | (unfold rg; omega))⟩ (by decide) dL_areEchoes_272 (fun h272 => ?_) (fun h272 => ?_)
        · skip
          exfalso; omega
        · skip
          refine v_aload_n (pc := 275) C 0 rfl rfl dL_areEchoes_275 ?_
          refine v_aload_n (pc := 276) C 1 rfl rfl dL_areEchoes_276 ?_
          refine v_bipush (pc := 277) C rfl dL_areEchoes_277 ?_
          refine al_14 (pc := 279) C ⟨by (first | assumption | omega | (unfold rg; omega)), by (first | assumption | omega | (unfold rg; omega))⟩ dL_areEchoes_279 (g 14 0 0 9) (rfl) ?_
          refine v_iconst (pc := 280) C dL_areEchoes_280 ?_
          refine v_calliH (pc := 281) C cwh_L_echoOf (ct_L_echoOf l L g (g 14 0 0 9) 0 (by first | assumption | omega | (unfold rg; omega)) (by first | assumption | omega | (unfold rg; omega)) (by first | assumption | omega | (unfold rg; omega)) (by first | assumption | omega | (unfold rg; omega))) ⟨Nat.le_of_ble_eq_true rfl, Nat.le_of_ble_eq_true rfl⟩ rfl (Nat.le_of_ble_eq_true rfl) ⟨Nat.le_of_ble_eq_true rfl, Nat.le_of_ble_eq_true rfl⟩ rfl dL_areEchoes_281 (fun r9 u9 hP_2 => ?_)
          obtain ⟨hP_2, hP_2b⟩ := hP_2
          rw [hP_2, hP_2b]
          clear hP_2 hP_2b r9 u9
          refine v_iconst (pc := 284) C dL_areEchoes_284 ?_
          refine v_icmp_ne (pc := 285) C 304 ⟨by (first | assumption | omega | (unfold rg; omega)), by (first | assumption | omega | (unfold rg; omega))⟩ ⟨by (first | assumption | omega | (unfold rg; omega)), by (first | assumption | omega | (unfold rg; omega))⟩ (by decide) dL_areEchoes_285 (fun h285 => ?_) (fun h285 => ?_)
          · skip
            exfalso; omega
          · skip
            refine v_aload_n (pc := 288) C 0 rfl rfl dL_areEchoes_288 ?_
            refine v_iconst (pc := 289) C dL_areEchoes_289 ?_
            refine v_calliH (pc := 290) C cwh_L_count (ct_L_count l L g 4 (by first | assumption | omega | (unfold rg; omega)) (by first | assumption | omega | (unfold rg; omega))) ⟨Nat.le_of_ble_eq_true rfl, Nat.le_of_ble_eq_true rfl⟩ rfl (Nat.le_of_ble_eq_true rfl) ⟨Nat.le_of_ble_eq_true rfl, Nat.le_of_ble_eq_true rfl⟩ rfl dL_areEchoes_290 (fun r9 u9 hP_3 => ?_)
            obtain ⟨hP_3, hP_3b⟩ := hP_3
            rw [hP_3, hP_3b]
            clear hP_3 hP_3b r9 u9
            refine v_aload_n (pc := 293) C 1 rfl rfl dL_areEchoes_293 ?_
            refine v_bipush (pc := 294) C rfl dL_areEchoes_294 ?_
            refine al_14 (pc := 296) C ⟨by (first | assumption | omega | (unfold rg; omega)), by (first | assumption | omega | (unfold rg; omega))⟩ dL_areEchoes_296 (g 14 0 0 9) (rfl) ?_
            refine v_icmp_ne (pc := 297) C 304 ⟨by (first | assumption | omega | (unfold rg; omega)), by (first | assumption | omega | (unfold rg; omega))⟩ ⟨by (first | assumption | omega | (unfold rg; omega)), by (first | assumption | omega | (unfold rg; omega))⟩ (by decide) dL_areEchoes_297 (fun h297 => ?_) (fun h297 => ?_)
            · skip
              exfalso; omega
            · skip
              refine v_iconst (pc := 300) C dL_areEchoes_300 ?_
              refine v_goto (pc := 301) C 305 (by decide) dL_areEchoes_301 ?_
              exact v_zret (pc := 305) C hr hlk (by first | assumption | omega | (unfold rg; omega)) (⟨rfl, rfl⟩) dL_areEchoes_305
      · skip
        refine v_iconst (pc := 20) C dL_areEchoes_20 ?_
        refine v_istore (pc := 21) C [(7, .int (iI (-1))), (0, .ref (adr L 0 0 0)), (1, .ref (adr L 14 0 0)), (2, .ref (adr L 16 0 0)), (3, .ref (adr L 17 0 0)), (4, .int (iI a)), (5, .int (iI b)), (6, .int (iI r))] (by decide) rfl dL_areEchoes_21 ?_
        refine v_iconst (pc := 23) C dL_areEchoes_23 ?_
        refine v_istore (pc := 24) C [(8, .int (iI 0)), (7, .int (iI (-1))), (0, .ref (adr L 0 0 0)), (1, .ref (adr L 14 0 0)), (2, .ref (adr L 16 0 0)), (3, .ref (adr L 17 0 0)), (4, .int (iI a)), (5, .int (iI b)), (6, .int (iI r))] (by decide) rfl dL_areEchoes_24 ?_
        have lb26 : ∀ (n9 : Nat) (x : Int) (k : Int), (0 ≤ x ∧ x ≤ g 14 0 0 9) → (-1 ≤ k ∧ k < x) → (slI g a b x k) → (g 14 0 0 9 - x).toNat < n9 → V pp l ee { frames := 7, cells := 0, slots := 0, locals := 153 } ss mm ([.ref (adr L 0 0 0), .ref (adr L 14 0 0), .ref (adr L 16 0 0), .ref (adr L 17 0 0)]).toArray bel mth cx 10 L (HH L g) 0 0 (MQ bel (va_Qi (fun (r9 : Int32) (u9 : St) => r9 = iI 1 ∧ u9 = g) (fun u t => HS L u t) (Af L)) ([.ref (adr L 0 0 0), .ref (adr L 14 0 0), .ref (adr L 16 0 0), .ref (adr L 17 0 0)]).toArray ss 0 0 (Af L)) 26 [(0, .ref (adr L 0 0 0)), (1, .ref (adr L 14 0 0)), (2, .ref (adr L 16 0 0)), (3, .ref (adr L 17 0 0)), (4, .int (iI a)), (5, .int (iI b)), (6, .int (iI r)), (7, .int (iI k)), (8, .int (iI x))] [] := by
          intro n9
          induction n9 with
          | zero => intro x k hx hk0 hsl hm9; exact absurd hm9 (Nat.not_lt_zero _)
          | succ n9 ih9 =>
            intro x k hx hk0 hsl hm9
            have ih26 := ih9
            refine v_iload (pc := 26) C 8 rfl dL_areEchoes_26 ?_
            refine v_aload_n (pc := 28) C 1 rfl rfl dL_areEchoes_28 ?_
            refine v_bipush (pc := 29) C rfl dL_areEchoes_29 ?_
            refine al_14 (pc := 31) C ⟨by (first | assumption | omega | (unfold rg; omega)), by (first | assumption | omega | (unfold rg; omega))⟩ dL_areEchoes_31 (g 14 0 0 9) (rfl) ?_
            refine v_icmp_ge (pc := 32) C 111 ⟨by (first | assumption | omega | (unfold rg; omega)), by (first | assumption | omega | (unfold rg; omega))⟩ ⟨by (first | assumption | omega | (unfold rg; omega)), by (first | assumption | omega | (unfold rg; omega))⟩ (by decide) dL_areEchoes_32 (fun h32 => ?_) (fun h32 => ?_)
            · skip
              have hk := sl_end hrk.1 (by omega) hI (by rw [show g 14 0 0 9 = x by omega]; exact hsl)
              have hek := qEc k hk.1.1 hk.1.2
              have hek2 := heR.2 k hk.1.1 hk.1.2
              have hea := ea_L qN.1 hrk.1 (by omega) hk.1.1 hk.1.2 hk.2
              have hee := em_e (g := g) hk.1.1
              have hco := lCo_in g (g 17 0 0 k / 100) (g 16 0 0 k / 2)
              have t0 : ecN g 0 r 0 = g 17 0 0 k / 10 % 10 := by rw [et_S hw hT hrk.1 (by decide)]; unfold mEt; simp only []; rw [hea, if_neg (by omega)]; exact hee.1
              have t1 : ecN g 0 r 1 = g 17 0 0 k / 100 := by rw [et_S hw hT hrk.1 (by decide)]; unfold mEt; simp only []; rw [hea, if_neg (by omega)]; exact hee.2.1
              have t2 : ecN g 0 r 2 = g 17 0 0 k % 10 := by rw [et_S hw hT hrk.1 (by decide)]; unfold mEt; simp only []; rw [hea, if_neg (by omega)]; exact hee.2.2.1
              have t3 : ecN g 0 r 3 = g 16 0 0 k / 2 - g 14 0 0 3 := by rw [et_S hw hT hrk.1 (by decide)]; unfold mEt; simp only []; rw [hea, if_neg (by omega), if_pos trivial, hee.2.2.2.1, em_q (by decide) (by decide)]
              have t4 : ecN g 0 r 4 = g 16 0 0 k % 2 := by rw [et_S hw hT hrk.1 (by decide)]; unfold mEt; simp only []; rw [hea, if_neg (by omega), if_neg (by decide), if_pos trivial]; exact hee.2.2.2.2
              have t5 : ecN g 0 r 5 = if 1 < lCo g (g 17 0 0 k / 100) (g 16 0 0 k / 2) then 1 else 0 := by rw [et_S hw hT hrk.1 (by decide)]; unfold mEt; simp only []; rw [hea, if_neg (by omega), if_neg (by decide), if_neg (by decide), if_pos trivial, hee.2.1, hee.2.2.2.1, lCo_em]
              refine v_iload (pc := 111) C 7 rfl dL_areEchoes_111 ?_
              refine v_if_ge (pc := 113) C 118 ⟨by (first | assumption | omega | (unfold rg; omega)), by (first | assumption | omega | (unfold rg; omega))⟩ (by decide) dL_areEchoes_113 (fun h113 => ?_) (fun h113 => ?_)
              · skip
                refine v_aload_n (pc := 118) C 2 rfl rfl dL_areEchoes_118 ?_
                refine v_iload (pc := 119) C 7 rfl dL_areEchoes_119 ?_
                refine al_16 (pc := 121) C ⟨by (first | assumption | omega | (unfold rg; omega)), by (first | assumption | omega | (unfold rg; omega))⟩ dL_areEchoes_121 (g 16 0 0 k) (rfl) ?_
                refine v_iconst (pc := 122) C dL_areEchoes_122 ?_
                refine v_idiv (pc := 123) C (⟨⟨by (first | assumption | omega | (unfold rg; omega)), by (first | assumption | omega | (unfold rg; omega))⟩, ⟨by (first | assumption | omega | (unfold rg; omega)), by (first | assumption | omega | (unfold rg; omega))⟩, by (first | assumption | omega | (unfold rg; omega)), by (first | assumption | omega | (unfold rg; omega))⟩) dL_areEchoes_123 ?_
                refine v_istore (pc := 124) C [(4, .int (iI ((g 16 0 0 k) / 2))), (0, .ref (adr L 0 0 0)), (1, .ref (adr L 14 0 0)), (2, .ref (adr L 16 0 0)), (3, .ref (adr L 17 0 0)), (5, .int (iI b)), (6, .int (iI r)), (7, .int (iI k)), (8, .int (iI x))] (by decide) rfl dL_areEchoes_124 ?_
                refine v_iload (pc := 126) C 7 rfl dL_areEchoes_126 ?_
                refine v_istore (pc := 128) C [(5, .int (iI k)), (4, .int (iI ((g 16 0 0 k) / 2))), (0, .ref (adr L 0 0 0)), (1, .ref (adr L 14 0 0)), (2, .ref (adr L 16 0 0)), (3, .ref (adr L 17 0 0)), (6, .int (iI r)), (7, .int (iI k)), (8, .int (iI x))] (by decide) rfl dL_areEchoes_128 ?_
                refine v_aload_n (pc := 130) C 5 rfl rfl dL_areEchoes_130 ?_
                refine v_iload (pc := 131) C 7 rfl dL_areEchoes_131 ?_
                refine al_17 (pc := 133) C ⟨by (first | assumption | omega | (unfold rg; omega)), by (first | assumption | omega | (unfold rg; omega))⟩ dL_areEchoes_133 (g 17 0 0 k) (rfl) ?_
                refine v_bipush (pc := 134) C rfl dL_areEchoes_134 ?_
                refine v_idiv (pc := 136) C (⟨⟨by (first | assumption | omega | (unfold rg; omega)), by (first | assumption | omega | (unfold rg; omega))⟩, ⟨by (first | assumption | omega | (unfold rg; omega)), by (first | assumption | omega | (unfold rg; omega))⟩, by (first | assumption | omega | (unfold rg; omega)), by (first | assumption | omega | (unfold rg; omega))⟩) dL_areEchoes_136 ?_
                refine v_iload (pc := 137) C 1 rfl dL_areEchoes_137 ?_
                refine v_aload_n (pc := 139) C 3 rfl rfl dL_areEchoes_139 ?_
                refine v_aload_n (pc := 140) C 4 rfl rfl dL_areEchoes_140 ?_
                refine v_aload_n (pc := 141) C 5 rfl rfl dL_areEchoes_141 ?_
                refine v_calliS (pc := 142) C cw_RL_71 (ct_L_coming l L g ((g 17 0 0 k) / 100) ((g 16 0 0 k) / 2) (by exact heR) (by omega) (by omega)) ⟨Nat.le_of_ble_eq_true rfl, Nat.le_of_ble_eq_true rfl⟩ rfl (Nat.le_of_ble_eq_true rfl) ⟨Nat.le_of_ble_eq_true rfl, Nat.le_of_ble_eq_true rfl⟩ rfl dL_areEchoes_142 (fun r9 u9 hP_4 => ?_)
                obtain ⟨hP_4, hP_4b⟩ := hP_4
                rw [hP_4, hP_4b]
                clear hP_4 hP_4b r9 u9
                refine v_iconst (pc := 145) C dL_areEchoes_145 ?_
                refine v_icmp_le (pc := 146) C 153 ⟨by (first | assumption | omega | (unfold rg; omega)), by (first | assumption | omega | (unfold rg; omega))⟩ ⟨by (first | assumption | omega | (unfold rg; omega)), by (first | assumption | omega | (unfold rg; omega))⟩ (by decide) dL_areEchoes_146 (fun h146 => ?_) (fun h146 => ?_)
                · skip
                  rw [if_neg (by omega)] at t5
                  skip
                  refine v_iconst (pc := 153) C dL_areEchoes_153 ?_
                  refine v_istore (pc := 154) C [(8, .int (iI 0)), (5, .int (iI k)), (4, .int (iI ((g 16 0 0 k) / 2))), (0, .ref (adr L 0 0 0)), (1, .ref (adr L 14 0 0)), (2, .ref (adr L 16 0 0)), (3, .ref (adr L 17 0 0)), (6, .int (iI r)), (7, .int (iI k))] (by decide) rfl dL_areEchoes_154 ?_
                  refine v_aload_n (pc := 156) C 3 rfl rfl dL_areEchoes_156 ?_
                  refine v_iload (pc := 157) C 7 rfl dL_areEchoes_157 ?_
                  refine v_iconst (pc := 159) C dL_areEchoes_159 ?_
                  refine v_calliH (pc := 160) C cwh_L_echoOf (ct_L_echoOf l L g r 0 (by first | assumption | omega | (unfold rg; omega)) (by first | assumption | omega | (unfold rg; omega)) (by first | assumption | omega | (unfold rg; omega)) (by first | assumption | omega | (unfold rg; omega))) ⟨Nat.le_of_ble_eq_true rfl, Nat.le_of_ble_eq_true rfl⟩ rfl (Nat.le_of_ble_eq_true rfl) ⟨Nat.le_of_ble_eq_true rfl, Nat.le_of_ble_eq_true rfl⟩ rfl dL_areEchoes_160 (fun r9 u9 hP_5 => ?_)
                  obtain ⟨hP_5, hP_5b⟩ := hP_5
                  rw [hP_5, hP_5b]
                  clear hP_5 hP_5b r9 u9
                  refine v_aload_n (pc := 163) C 6 rfl rfl dL_areEchoes_163 ?_
                  refine v_iload (pc := 164) C 8 rfl dL_areEchoes_164 ?_
                  refine al_17 (pc := 166) C ⟨by (first | assumption | omega | (unfold rg; omega)), by (first | assumption | omega | (unfold rg; omega))⟩ dL_areEchoes_166 (g 17 0 0 k) (rfl) ?_
                  refine v_bipush (pc := 167) C rfl dL_areEchoes_167 ?_
                  refine v_idiv (pc := 169) C (⟨⟨by (first | assumption | omega | (unfold rg; omega)), by (first | assumption | omega | (unfold rg; omega))⟩, ⟨by (first | assumption | omega | (unfold rg; omega)), by (first | assumption | omega | (unfold rg; omega))⟩, by (first | assumption | omega | (unfold rg; omega)), by (first | assumption | omega | (unfold rg; omega))⟩) dL_areEchoes_169 ?_
                  refine v_bipush (pc := 170) C rfl dL_areEchoes_170 ?_
                  refine v_irem (pc := 172) C (⟨⟨by (first | assumption | omega | (unfold rg; omega)), by (first | assumption | omega | (unfold rg; omega))⟩, ⟨by (first | assumption | omega | (unfold rg; omega)), by (first | assumption | omega | (unfold rg; omega))⟩, by (first | assumption | omega | (unfold rg; omega)), by (first | assumption | omega | (unfold rg; omega))⟩) dL_areEchoes_172 ?_
                  refine v_icmp_ne (pc := 173) C 254 ⟨by (first | assumption | omega | (unfold rg; omega)), by (first | assumption | omega | (unfold rg; omega))⟩ ⟨by (first | assumption | omega | (unfold rg; omega)), by (first | assumption | omega | (unfold rg; omega))⟩ (by decide) dL_areEchoes_173 (fun h173 => ?_) (fun h173 => ?_)
                  · skip
                    exfalso; omega
                  · skip
                    refine v_aload_n (pc := 176) C 3 rfl rfl dL_areEchoes_176 ?_
                    refine v_iload (pc := 177) C 7 rfl dL_areEchoes_177 ?_
                    refine v_iconst (pc := 179) C dL_areEchoes_179 ?_
                    refine v_calliH (pc := 180) C cwh_L_echoOf (ct_L_echoOf l L g r 1 (by first | assumption | omega | (unfold rg; omega)) (by first | assumption | omega | (unfold rg; omega)) (by first | assumption | omega | (unfold rg; omega)) (by first | assumption | omega | (unfold rg; omega))) ⟨Nat.le_of_ble_eq_true rfl, Nat.le_of_ble_eq_true rfl⟩ rfl (Nat.le_of_ble_eq_true rfl) ⟨Nat.le_of_ble_eq_true rfl, Nat.le_of_ble_eq_true rfl⟩ rfl dL_areEchoes_180 (fun r9 u9 hP_6 => ?_)
                    obtain ⟨hP_6, hP_6b⟩ := hP_6
                    rw [hP_6, hP_6b]
                    clear hP_6 hP_6b r9 u9
                    refine v_aload_n (pc := 183) C 6 rfl rfl dL_areEchoes_183 ?_
                    refine v_iload (pc := 184) C 8 rfl dL_areEchoes_184 ?_
                    refine al_17 (pc := 186) C ⟨by (first | assumption | omega | (unfold rg; omega)), by (first | assumption | omega | (unfold rg; omega))⟩ dL_areEchoes_186 (g 17 0 0 k) (rfl) ?_
                    refine v_bipush (pc := 187) C rfl dL_areEchoes_187 ?_
                    refine v_idiv (pc := 189) C (⟨⟨by (first | assumption | omega | (unfold rg; omega)), by (first | assumption | omega | (unfold rg; omega))⟩, ⟨by (first | assumption | omega | (unfold rg; omega)), by (first | assumption | omega | (unfold rg; omega))⟩, by (first | assumption | omega | (unfold rg; omega)), by (first | assumption | omega | (unfold rg; omega))⟩) dL_areEchoes_189 ?_
                    refine v_icmp_ne (pc := 190) C 254 ⟨by (first | assumption | omega | (unfold rg; omega)), by (first | assumption | omega | (unfold rg; omega))⟩ ⟨by (first | assumption | omega | (unfold rg; omega)), by (first | assumption | omega | (unfold rg; omega))⟩ (by decide) dL_areEchoes_190 (fun h190 => ?_) (fun h190 => ?_)
                    · skip
                      exfalso; omega
                    · skip
                      refine v_aload_n (pc := 193) C 3 rfl rfl dL_areEchoes_193 ?_
                      refine v_iload (pc := 194) C 7 rfl dL_areEchoes_194 ?_
                      refine v_iconst (pc := 196) C dL_areEchoes_196 ?_
                      refine v_calliH (pc := 197) C cwh_L_echoOf (ct_L_echoOf l L g r 2 (by first | assumption | omega | (unfold rg; omega)) (by first | assumption | omega | (unfold rg; omega)) (by first | assumption | omega | (unfold rg; omega)) (by first | assumption | omega | (unfold rg; omega))) ⟨Nat.le_of_ble_eq_true rfl, Nat.le_of_ble_eq_true rfl⟩ rfl (Nat.le_of_ble_eq_true rfl) ⟨Nat.le_of_ble_eq_true rfl, Nat.le_of_ble_eq_true rfl⟩ rfl dL_areEchoes_197 (fun r9 u9 hP_7 => ?_)
                      obtain ⟨hP_7, hP_7b⟩ := hP_7
                      rw [hP_7, hP_7b]
                      clear hP_7 hP_7b r9 u9
                      refine v_aload_n (pc := 200) C 6 rfl rfl dL_areEchoes_200 ?_
                      refine v_iload (pc := 201) C 8 rfl dL_areEchoes_201 ?_
                      refine al_17 (pc := 203) C ⟨by (first | assumption | omega | (unfold rg; omega)), by (first | assumption | omega | (unfold rg; omega))⟩ dL_areEchoes_203 (g 17 0 0 k) (rfl) ?_
                      refine v_bipush (pc := 204) C rfl dL_areEchoes_204 ?_
                      refine v_irem (pc := 206) C (⟨⟨by (first | assumption | omega | (unfold rg; omega)), by (first | assumption | omega | (unfold rg; omega))⟩, ⟨by (first | assumption | omega | (unfold rg; omega)), by (first | assumption | omega | (unfold rg; omega))⟩, by (first | assumption | omega | (unfold rg; omega)), by (first | assumption | omega | (unfold rg; omega))⟩) dL_areEchoes_206 ?_
                      refine v_icmp_ne (pc := 207) C 254 ⟨by (first | assumption | omega | (unfold rg; omega)), by (first | assumption | omega | (unfold rg; omega))⟩ ⟨by (first | assumption | omega | (unfold rg; omega)), by (first | assumption | omega | (unfold rg; omega))⟩ (by decide) dL_areEchoes_207 (fun h207 => ?_) (fun h207 => ?_)
                      · skip
                        exfalso; omega
                      · skip
                        refine v_aload_n (pc := 210) C 3 rfl rfl dL_areEchoes_210 ?_
                        refine v_iload (pc := 211) C 7 rfl dL_areEchoes_211 ?_
                        refine v_iconst (pc := 213) C dL_areEchoes_213 ?_
                        refine v_calliH (pc := 214) C cwh_L_echoOf (ct_L_echoOf l L g r 3 (by first | assumption | omega | (unfold rg; omega)) (by first | assumption | omega | (unfold rg; omega)) (by first | assumption | omega | (unfold rg; omega)) (by first | assumption | omega | (unfold rg; omega))) ⟨Nat.le_of_ble_eq_true rfl, Nat.le_of_ble_eq_true rfl⟩ rfl (Nat.le_of_ble_eq_true rfl) ⟨Nat.le_of_ble_eq_true rfl, Nat.le_of_ble_eq_true rfl⟩ rfl dL_areEchoes_214 (fun r9 u9 hP_8 => ?_)
                        obtain ⟨hP_8, hP_8b⟩ := hP_8
                        rw [hP_8, hP_8b]
                        clear hP_8 hP_8b r9 u9
                        refine v_iload (pc := 217) C 2 rfl dL_areEchoes_217 ?_
                        refine v_aload_n (pc := 219) C 4 rfl rfl dL_areEchoes_219 ?_
                        refine v_iconst (pc := 220) C dL_areEchoes_220 ?_
                        refine al_14 (pc := 221) C ⟨by (first | assumption | omega | (unfold rg; omega)), by (first | assumption | omega | (unfold rg; omega))⟩ dL_areEchoes_221 (g 14 0 0 3) (rfl) ?_
                        refine v_isub (pc := 222) C dL_areEchoes_222 ?_
                        refine v_icmp_ne (pc := 223) C 254 ⟨by (first | assumption | omega | (unfold rg; omega)), by (first | assumption | omega | (unfold rg; omega))⟩ ⟨by (first | assumption | omega | (unfold rg; omega)), by (first | assumption | omega | (unfold rg; omega))⟩ (by decide) dL_areEchoes_223 (fun h223 => ?_) (fun h223 => ?_)
                        · skip
                          exfalso; omega
                        · skip
                          refine v_aload_n (pc := 226) C 3 rfl rfl dL_areEchoes_226 ?_
                          refine v_iload (pc := 227) C 7 rfl dL_areEchoes_227 ?_
                          refine v_iconst (pc := 229) C dL_areEchoes_229 ?_
                          refine v_calliH (pc := 230) C cwh_L_echoOf (ct_L_echoOf l L g r 4 (by first | assumption | omega | (unfold rg; omega)) (by first | assumption | omega | (unfold rg; omega)) (by first | assumption | omega | (unfold rg; omega)) (by first | assumption | omega | (unfold rg; omega))) ⟨Nat.le_of_ble_eq_true rfl, Nat.le_of_ble_eq_true rfl⟩ rfl (Nat.le_of_ble_eq_true rfl) ⟨Nat.le_of_ble_eq_true rfl, Nat.le_of_ble_eq_true rfl⟩ rfl dL_areEchoes_230 (fun r9 u9 hP_9 => ?_)
                          obtain ⟨hP_9, hP_9b⟩ := hP_9
                          rw [hP_9, hP_9b]
                          clear hP_9 hP_9b r9 u9
                          refine v_aload_n (pc := 233) C 5 rfl rfl dL_areEchoes_233 ?_
                          refine v_iload (pc := 234) C 8 rfl dL_areEchoes_234 ?_
                          refine al_16 (pc := 236) C ⟨by (first | assumption | omega | (unfold rg; omega)), by (first | assumption | omega | (unfold rg; omega))⟩ dL_areEchoes_236 (g 16 0 0 k) (rfl) ?_
                          refine v_iconst (pc := 237) C dL_areEchoes_237 ?_
                          refine v_irem (pc := 238) C (⟨⟨by (first | assumption | omega | (unfold rg; omega)), by (first | assumption | omega | (unfold rg; omega))⟩, ⟨by (first | assumption | omega | (unfold rg; omega)), by (first | assumption | omega | (unfold rg; omega))⟩, by (first | assumption | omega | (unfold rg; omega)), by (first | assumption | omega | (unfold rg; omega))⟩) dL_areEchoes_238 ?_
                          refine v_icmp_ne (pc := 239) C 254 ⟨by (first | assumption | omega | (unfold rg; omega)), by (first | assumption | omega | (unfold rg; omega))⟩ ⟨by (first | assumption | omega | (unfold rg; omega)), by (first | assumption | omega | (unfold rg; omega))⟩ (by decide) dL_areEchoes_239 (fun h239 => ?_) (fun h239 => ?_)
                          · skip
                            exfalso; omega
                          · skip
                            refine v_aload_n (pc := 242) C 3 rfl rfl dL_areEchoes_242 ?_
                            refine v_iload (pc := 243) C 7 rfl dL_areEchoes_243 ?_
                            refine v_iconst (pc := 245) C dL_areEchoes_245 ?_
                            refine v_calliH (pc := 246) C cwh_L_echoOf (ct_L_echoOf l L g r 5 (by first | assumption | omega | (unfold rg; omega)) (by first | assumption | omega | (unfold rg; omega)) (by first | assumption | omega | (unfold rg; omega)) (by first | assumption | omega | (unfold rg; omega))) ⟨Nat.le_of_ble_eq_true rfl, Nat.le_of_ble_eq_true rfl⟩ rfl (Nat.le_of_ble_eq_true rfl) ⟨Nat.le_of_ble_eq_true rfl, Nat.le_of_ble_eq_true rfl⟩ rfl dL_areEchoes_246 (fun r9 u9 hP_10 => ?_)
                            obtain ⟨hP_10, hP_10b⟩ := hP_10
                            rw [hP_10, hP_10b]
                            clear hP_10 hP_10b r9 u9
                            refine v_iload (pc := 249) C 0 rfl dL_areEchoes_249 ?_
                            refine v_icmp_eq (pc := 251) C 256 ⟨by (first | assumption | omega | (unfold rg; omega)), by (first | assumption | omega | (unfold rg; omega))⟩ ⟨by (first | assumption | omega | (unfold rg; omega)), by (first | assumption | omega | (unfold rg; omega))⟩ (by decide) dL_areEchoes_251 (fun h251 => ?_) (fun h251 => ?_)
                            · skip
                              refine v_iinc (pc := 256) C 7 [(6, .int (iI (r + 1))), (8, .int (iI 0)), (5, .int (iI k)), (4, .int (iI ((g 16 0 0 k) / 2))), (0, .ref (adr L 0 0 0)), (1, .ref (adr L 14 0 0)), (2, .ref (adr L 16 0 0)), (3, .ref (adr L 17 0 0)), (7, .int (iI k))] rfl (by decide) rfl dL_areEchoes_256 ?_
                              refine v_goto (pc := 259) C 11 (by decide) dL_areEchoes_259 ?_
                              refine v_lsub [4, 5, 6, 7, 3, 2, 0] rfl ?_
                              exact ih11 (r + 1) ((g 16 0 0 k) / 2) k (by omega) (by omega) (by omega) (by exact rk_next hk.1.1 hk.1.2 hk.2) (by exact fun hx => qu_L hq (by decide) (by omega) hk.1.1 hk.1.2 (by omega)) (by omega)
                            · skip
                              exfalso; omega
                · skip
                  rw [if_pos (by omega)] at t5
                  refine v_iconst (pc := 149) C dL_areEchoes_149 ?_
                  refine v_goto (pc := 150) C 154 (by decide) dL_areEchoes_150 ?_
                  refine v_istore (pc := 154) C [(8, .int (iI 1)), (5, .int (iI k)), (4, .int (iI ((g 16 0 0 k) / 2))), (0, .ref (adr L 0 0 0)), (1, .ref (adr L 14 0 0)), (2, .ref (adr L 16 0 0)), (3, .ref (adr L 17 0 0)), (6, .int (iI r)), (7, .int (iI k))] (by decide) rfl dL_areEchoes_154 ?_
                  refine v_aload_n (pc := 156) C 3 rfl rfl dL_areEchoes_156 ?_
                  refine v_iload (pc := 157) C 7 rfl dL_areEchoes_157 ?_
                  refine v_iconst (pc := 159) C dL_areEchoes_159 ?_
                  refine v_calliH (pc := 160) C cwh_L_echoOf (ct_L_echoOf l L g r 0 (by first | assumption | omega | (unfold rg; omega)) (by first | assumption | omega | (unfold rg; omega)) (by first | assumption | omega | (unfold rg; omega)) (by first | assumption | omega | (unfold rg; omega))) ⟨Nat.le_of_ble_eq_true rfl, Nat.le_of_ble_eq_true rfl⟩ rfl (Nat.le_of_ble_eq_true rfl) ⟨Nat.le_of_ble_eq_true rfl, Nat.le_of_ble_eq_true rfl⟩ rfl dL_areEchoes_160 (fun r9 u9 hP_11 => ?_)
                  obtain ⟨hP_11, hP_11b⟩ := hP_11
                  rw [hP_11, hP_11b]
                  clear hP_11 hP_11b r9 u9
                  refine v_aload_n (pc := 163) C 6 rfl rfl dL_areEchoes_163 ?_
                  refine v_iload (pc := 164) C 8 rfl dL_areEchoes_164 ?_
                  refine al_17 (pc := 166) C ⟨by (first | assumption | omega | (unfold rg; omega)), by (first | assumption | omega | (unfold rg; omega))⟩ dL_areEchoes_166 (g 17 0 0 k) (rfl) ?_
                  refine v_bipush (pc := 167) C rfl dL_areEchoes_167 ?_
                  refine v_idiv (pc := 169) C (⟨⟨by (first | assumption | omega | (unfold rg; omega)), by (first | assumption | omega | (unfold rg; omega))⟩, ⟨by (first | assumption | omega | (unfold rg; omega)), by (first | assumption | omega | (unfold rg; omega))⟩, by (first | assumption | omega | (unfold rg; omega)), by (first | assumption | omega | (unfold rg; omega))⟩) dL_areEchoes_169 ?_
                  refine v_bipush (pc := 170) C rfl dL_areEchoes_170 ?_
                  refine v_irem (pc := 172) C (⟨⟨by (first | assumption | omega | (unfold rg; omega)), by (first | assumption | omega | (unfold rg; omega))⟩, ⟨by (first | assumption | omega | (unfold rg; omega)), by (first | assumption | omega | (unfold rg; omega))⟩, by (first | assumption | omega | (unfold rg; omega)), by (first | assumption | omega | (unfold rg; omega))⟩) dL_areEchoes_172 ?_
                  refine v_icmp_ne (pc := 173) C 254 ⟨by (first | assumption | omega | (unfold rg; omega)), by (first | assumption | omega | (unfold rg; omega))⟩ ⟨by (first | assumption | omega | (unfold rg; omega)), by (first | assumption | omega | (unfold rg; omega))⟩ (by decide) dL_areEchoes_173 (fun h173 => ?_) (fun h173 => ?_)
                  · skip
                    exfalso; omega
                  · skip
                    refine v_aload_n (pc := 176) C 3 rfl rfl dL_areEchoes_176 ?_
                    refine v_iload (pc := 177) C 7 rfl dL_areEchoes_177 ?_
                    refine v_iconst (pc := 179) C dL_areEchoes_179 ?_
                    refine v_calliH (pc := 180) C cwh_L_echoOf (ct_L_echoOf l L g r 1 (by first | assumption | omega | (unfold rg; omega)) (by first | assumption | omega | (unfold rg; omega)) (by first | assumption | omega | (unfold rg; omega)) (by first | assumption | omega | (unfold rg; omega))) ⟨Nat.le_of_ble_eq_true rfl, Nat.le_of_ble_eq_true rfl⟩ rfl (Nat.le_of_ble_eq_true rfl) ⟨Nat.le_of_ble_eq_true rfl, Nat.le_of_ble_eq_true rfl⟩ rfl dL_areEchoes_180 (fun r9 u9 hP_12 => ?_)
                    obtain ⟨hP_12, hP_12b⟩ := hP_12
                    rw [hP_12, hP_12b]
                    clear hP_12 hP_12b r9 u9
                    refine v_aload_n (pc := 183) C 6 rfl rfl dL_areEchoes_183 ?_
                    refine v_iload (pc := 184) C 8 rfl dL_areEchoes_184 ?_
                    refine al_17 (pc := 186) C ⟨by (first | assumption | omega | (unfold rg; omega)), by (first | assumption | omega | (unfold rg; omega))⟩ dL_areEchoes_186 (g 17 0 0 k) (rfl) ?_
                    refine v_bipush (pc := 187) C rfl dL_areEchoes_187 ?_
                    refine v_idiv (pc := 189) C (⟨⟨by (first | assumption | omega | (unfold rg; omega)), by (first | assumption | omega | (unfold rg; omega))⟩, ⟨by (first | assumption | omega | (unfold rg; omega)), by (first | assumption | omega | (unfold rg; omega))⟩, by (first | assumption | omega | (unfold rg; omega)), by (first | assumption | omega | (unfold rg; omega))⟩) dL_areEchoes_189 ?_
                    refine v_icmp_ne (pc := 190) C 254 ⟨by (first | assumption | omega | (unfold rg; omega)), by (first | assumption | omega | (unfold rg; omega))⟩ ⟨by (first | assumption | omega | (unfold rg; omega)), by (first | assumption | omega | (unfold rg; omega))⟩ (by decide) dL_areEchoes_190 (fun h190 => ?_) (fun h190 => ?_)
                    · skip
                      exfalso; omega
                    · skip
                      refine v_aload_n (pc := 193) C 3 rfl rfl dL_areEchoes_193 ?_
                      refine v_iload (pc := 194) C 7 rfl dL_areEchoes_194 ?_
                      refine v_iconst (pc := 196) C dL_areEchoes_196 ?_
                      refine v_calliH (pc := 197) C cwh_L_echoOf (ct_L_echoOf l L g r 2 (by first | assumption | omega | (unfold rg; omega)) (by first | assumption | omega | (unfold rg; omega)) (by first | assumption | omega | (unfold rg; omega)) (by first | assumption | omega | (unfold rg; omega))) ⟨Nat.le_of_ble_eq_true rfl, Nat.le_of_ble_eq_true rfl⟩ rfl (Nat.le_of_ble_eq_true rfl) ⟨Nat.le_of_ble_eq_true rfl, Nat.le_of_ble_eq_true rfl⟩ rfl dL_areEchoes_197 (fun r9 u9 hP_13 => ?_)
                      obtain ⟨hP_13, hP_13b⟩ := hP_13
                      rw [hP_13, hP_13b]
                      clear hP_13 hP_13b r9 u9
                      refine v_aload_n (pc := 200) C 6 rfl rfl dL_areEchoes_200 ?_
                      refine v_iload (pc := 201) C 8 rfl dL_areEchoes_201 ?_
                      refine al_17 (pc := 203) C ⟨by (first | assumption | omega | (unfold rg; omega)), by (first | assumption | omega | (unfold rg; omega))⟩ dL_areEchoes_203 (g 17 0 0 k) (rfl) ?_
                      refine v_bipush (pc := 204) C rfl dL_areEchoes_204 ?_
                      refine v_irem (pc := 206) C (⟨⟨by (first | assumption | omega | (unfold rg; omega)), by (first | assumption | omega | (unfold rg; omega))⟩, ⟨by (first | assumption | omega | (unfold rg; omega)), by (first | assumption | omega | (unfold rg; omega))⟩, by (first | assumption | omega | (unfold rg; omega)), by (first | assumption | omega | (unfold rg; omega))⟩) dL_areEchoes_206 ?_
                      refine v_icmp_ne (pc := 207) C 254 ⟨by (first | assumption | omega | (unfold rg; omega)), by (first | assumption | omega | (unfold rg; omega))⟩ ⟨by (first | assumption | omega | (unfold rg; omega)), by (first | assumption | omega | (unfold rg; omega))⟩ (by decide) dL_areEchoes_207 (fun h207 => ?_) (fun h207 => ?_)
                      · skip
                        exfalso; omega
                      · skip
                        refine v_aload_n (pc := 210) C 3 rfl rfl dL_areEchoes_210 ?_
                        refine v_iload (pc := 211) C 7 rfl dL_areEchoes_211 ?_
                        refine v_iconst (pc := 213) C dL_areEchoes_213 ?_
                        refine v_calliH (pc := 214) C cwh_L_echoOf (ct_L_echoOf l L g r 3 (by first | assumption | omega | (unfold rg; omega)) (by first | assumption | omega | (unfold rg; omega)) (by first | assumption | omega | (unfold rg; omega)) (by first | assumption | omega | (unfold rg; omega))) ⟨Nat.le_of_ble_eq_true rfl, Nat.le_of_ble_eq_true rfl⟩ rfl (Nat.le_of_ble_eq_true rfl) ⟨Nat.le_of_ble_eq_true rfl, Nat.le_of_ble_eq_true rfl⟩ rfl dL_areEchoes_214 (fun r9 u9 hP_14 => ?_)
                        obtain ⟨hP_14, hP_14b⟩ := hP_14
                        rw [hP_14, hP_14b]
                        clear hP_14 hP_14b r9 u9
                        refine v_iload (pc := 217) C 2 rfl dL_areEchoes_217 ?_
                        refine v_aload_n (pc := 219) C 4 rfl rfl dL_areEchoes_219 ?_
                        refine v_iconst (pc := 220) C dL_areEchoes_220 ?_
                        refine al_14 (pc := 221) C ⟨by (first | assumption | omega | (unfold rg; omega)), by (first | assumption | omega | (unfold rg; omega))⟩ dL_areEchoes_221 (g 14 0 0 3) (rfl) ?_
                        refine v_isub (pc := 222) C dL_areEchoes_222 ?_
                        refine v_icmp_ne (pc := 223) C 254 ⟨by (first | assumption | omega | (unfold rg; omega)), by (first | assumption | omega | (unfold rg; omega))⟩ ⟨by (first | assumption | omega | (unfold rg; omega)), by (first | assumption | omega | (unfold rg; omega))⟩ (by decide) dL_areEchoes_223 (fun h223 => ?_) (fun h223 => ?_)
                        · skip
                          exfalso; omega
                        · skip
                          refine v_aload_n (pc := 226) C 3 rfl rfl dL_areEchoes_226 ?_
                          refine v_iload (pc := 227) C 7 rfl dL_areEchoes_227 ?_
                          refine v_iconst (pc := 229) C dL_areEchoes_229 ?_
                          refine v_calliH (pc := 230) C cwh_L_echoOf (ct_L_echoOf l L g r 4 (by first | assumption | omega | (unfold rg; omega)) (by first | assumption | omega | (unfold rg; omega)) (by first | assumption | omega | (unfold rg; omega)) (by first | assumption | omega | (unfold rg; omega))) ⟨Nat.le_of_ble_eq_true rfl, Nat.le_of_ble_eq_true rfl⟩ rfl (Nat.le_of_ble_eq_true rfl) ⟨Nat.le_of_ble_eq_true rfl, Nat.le_of_ble_eq_true rfl⟩ rfl dL_areEchoes_230 (fun r9 u9 hP_15 => ?_)
                          obtain ⟨hP_15, hP_15b⟩ := hP_15
                          rw [hP_15, hP_15b]
                          clear hP_15 hP_15b r9 u9
                          refine v_aload_n (pc := 233) C 5 rfl rfl dL_areEchoes_233 ?_
                          refine v_iload (pc := 234) C 8 rfl dL_areEchoes_234 ?_
                          refine al_16 (pc := 236) C ⟨by (first | assumption | omega | (unfold rg; omega)), by (first | assumption | omega | (unfold rg; omega))⟩ dL_areEchoes_236 (g 16 0 0 k) (rfl) ?_
                          refine v_iconst (pc := 237) C dL_areEchoes_237 ?_
                          refine v_irem (pc := 238) C (⟨⟨by (first | assumption | omega | (unfold rg; omega)), by (first | assumption | omega | (unfold rg; omega))⟩, ⟨by (first | assumption | omega | (unfold rg; omega)), by (first | assumption | omega | (unfold rg; omega))⟩, by (first | assumption | omega | (unfold rg; omega)), by (first | assumption | omega | (unfold rg; omega))⟩) dL_areEchoes_238 ?_
                          refine v_icmp_ne (pc := 239) C 254 ⟨by (first | assumption | omega | (unfold rg; omega)), by (first | assumption | omega | (unfold rg; omega))⟩ ⟨by (first | assumption | omega | (unfold rg; omega)), by (first | assumption | omega | (unfold rg; omega))⟩ (by decide) dL_areEchoes_239 (fun h239 => ?_) (fun h239 => ?_)
                          · skip
                            exfalso; omega
                          · skip
                            refine v_aload_n (pc := 242) C 3 rfl rfl dL_areEchoes_242 ?_
                            refine v_iload (pc := 243) C 7 rfl dL_areEchoes_243 ?_
                            refine v_iconst (pc := 245) C dL_areEchoes_245 ?_
                            refine v_calliH (pc := 246) C cwh_L_echoOf (ct_L_echoOf l L g r 5 (by first | assumption | omega | (unfold rg; omega)) (by first | assumption | omega | (unfold rg; omega)) (by first | assumption | omega | (unfold rg; omega)) (by first | assumption | omega | (unfold rg; omega))) ⟨Nat.le_of_ble_eq_true rfl, Nat.le_of_ble_eq_true rfl⟩ rfl (Nat.le_of_ble_eq_true rfl) ⟨Nat.le_of_ble_eq_true rfl, Nat.le_of_ble_eq_true rfl⟩ rfl dL_areEchoes_246 (fun r9 u9 hP_16 => ?_)
                            obtain ⟨hP_16, hP_16b⟩ := hP_16
                            rw [hP_16, hP_16b]
                            clear hP_16 hP_16b r9 u9
                            refine v_iload (pc := 249) C 0 rfl dL_areEchoes_249 ?_
                            refine v_icmp_eq (pc := 251) C 256 ⟨by (first | assumption | omega | (unfold rg; omega)), by (first | assumption | omega | (unfold rg; omega))⟩ ⟨by (first | assumption | omega | (unfold rg; omega)), by (first | assumption | omega | (unfold rg; omega))⟩ (by decide) dL_areEchoes_251 (fun h251 => ?_) (fun h251 => ?_)
                            · skip
                              refine v_iinc (pc := 256) C 7 [(6, .int (iI (r + 1))), (8, .int (iI 1)), (5, .int (iI k)), (4, .int (iI ((g 16 0 0 k) / 2))), (0, .ref (adr L 0 0 0)), (1, .ref (adr L 14 0 0)), (2, .ref (adr L 16 0 0)), (3, .ref (adr L 17 0 0)), (7, .int (iI k))] rfl (by decide) rfl dL_areEchoes_256 ?_
                              refine v_goto (pc := 259) C 11 (by decide) dL_areEchoes_259 ?_
                              refine v_lsub [4, 5, 6, 7, 3, 2, 0] rfl ?_
                              exact ih11 (r + 1) ((g 16 0 0 k) / 2) k (by omega) (by omega) (by omega) (by exact rk_next hk.1.1 hk.1.2 hk.2) (by exact fun hx => qu_L hq (by decide) (by omega) hk.1.1 hk.1.2 (by omega)) (by omega)
                            · skip
                              exfalso; omega
              · skip
                refine v_iconst (pc := 116) C dL_areEchoes_116 ?_
                exact v_zret (pc := 117) C hr hlk (by first | assumption | omega | (unfold rg; omega)) (⟨congrArg iI (by omega), rfl⟩) dL_areEchoes_117
            · skip
              have hex := qEc x hx.1 (by omega)
              have hex2 := heR.2 x hx.1 (by omega)
              refine v_aload_n (pc := 35) C 2 rfl rfl dL_areEchoes_35 ?_
              refine v_iload (pc := 36) C 8 rfl dL_areEchoes_36 ?_
              refine al_16 (pc := 38) C ⟨by (first | assumption | omega | (unfold rg; omega)), by (first | assumption | omega | (unfold rg; omega))⟩ dL_areEchoes_38 (g 16 0 0 x) (rfl) ?_
              refine v_iconst (pc := 39) C dL_areEchoes_39 ?_
              refine v_idiv (pc := 40) C (⟨⟨by (first | assumption | omega | (unfold rg; omega)), by (first | assumption | omega | (unfold rg; omega))⟩, ⟨by (first | assumption | omega | (unfold rg; omega)), by (first | assumption | omega | (unfold rg; omega))⟩, by (first | assumption | omega | (unfold rg; omega)), by (first | assumption | omega | (unfold rg; omega))⟩) dL_areEchoes_40 ?_
              refine v_iload (pc := 41) C 4 rfl dL_areEchoes_41 ?_
              refine v_icmp_gt (pc := 43) C 64 ⟨by (first | assumption | omega | (unfold rg; omega)), by (first | assumption | omega | (unfold rg; omega))⟩ ⟨by (first | assumption | omega | (unfold rg; omega)), by (first | assumption | omega | (unfold rg; omega))⟩ (by decide) dL_areEchoes_43 (fun h43 => ?_) (fun h43 => ?_)
              · skip
                refine v_iconst (pc := 64) C dL_areEchoes_64 ?_
                refine v_goto (pc := 65) C 69 (by decide) dL_areEchoes_65 ?_
                refine v_istore (pc := 69) C [(9, .int (iI 1)), (0, .ref (adr L 0 0 0)), (1, .ref (adr L 14 0 0)), (2, .ref (adr L 16 0 0)), (3, .ref (adr L 17 0 0)), (4, .int (iI a)), (5, .int (iI b)), (6, .int (iI r)), (7, .int (iI k)), (8, .int (iI x))] (by decide) rfl dL_areEchoes_69 ?_
                refine v_iload (pc := 71) C 0 rfl dL_areEchoes_71 ?_
                refine v_if_eq (pc := 73) C 101 ⟨by (first | assumption | omega | (unfold rg; omega)), by (first | assumption | omega | (unfold rg; omega))⟩ (by decide) dL_areEchoes_73 (fun h73 => ?_) (fun h73 => ?_)
                · skip
                  exfalso; omega
                · skip
                  refine v_iload (pc := 76) C 8 rfl dL_areEchoes_76 ?_
                  refine v_if_lt (pc := 78) C 96 ⟨by (first | assumption | omega | (unfold rg; omega)), by (first | assumption | omega | (unfold rg; omega))⟩ (by decide) dL_areEchoes_78 (fun h78 => ?_) (fun h78 => ?_)
                  · skip
                    refine v_iload (pc := 96) C 9 rfl dL_areEchoes_96 ?_
                    refine v_goto (pc := 98) C 103 (by decide) dL_areEchoes_98 ?_
                    refine v_istore (pc := 103) C [(7, .int (iI x)), (9, .int (iI 1)), (0, .ref (adr L 0 0 0)), (1, .ref (adr L 14 0 0)), (2, .ref (adr L 16 0 0)), (3, .ref (adr L 17 0 0)), (4, .int (iI a)), (5, .int (iI b)), (6, .int (iI r)), (8, .int (iI x))] (by decide) rfl dL_areEchoes_103 ?_
                    refine v_iinc (pc := 105) C 9 [(8, .int (iI (x + 1))), (7, .int (iI x)), (9, .int (iI 1)), (0, .ref (adr L 0 0 0)), (1, .ref (adr L 14 0 0)), (2, .ref (adr L 16 0 0)), (3, .ref (adr L 17 0 0)), (4, .int (iI a)), (5, .int (iI b)), (6, .int (iI r))] rfl (by decide) rfl dL_areEchoes_105 ?_
                    refine v_goto (pc := 108) C 26 (by decide) dL_areEchoes_108 ?_
                    refine v_lsub [3, 4, 5, 6, 7, 8, 9, 1, 0] rfl ?_
                    exact ih26 (x + 1) x (by omega) (by omega) (by first | exact sl_no hsl (by unfold lft; omega) | exact sl_ye hx.1 hsl (by unfold lft; omega) (by omega) | exact sl_ke hx.1 hsl (by omega) (by omega)) (by omega)
                  · skip
                    have hek := qEc k (by omega) (by omega)
                    have hek2 := heR.2 k (by omega) (by omega)
                    refine v_aload_n (pc := 81) C 3 rfl rfl dL_areEchoes_81 ?_
                    refine v_iload (pc := 82) C 9 rfl dL_areEchoes_82 ?_
                    refine al_16 (pc := 84) C ⟨by (first | assumption | omega | (unfold rg; omega)), by (first | assumption | omega | (unfold rg; omega))⟩ dL_areEchoes_84 (g 16 0 0 x) (rfl) ?_
                    refine v_iconst (pc := 85) C dL_areEchoes_85 ?_
                    refine v_idiv (pc := 86) C (⟨⟨by (first | assumption | omega | (unfold rg; omega)), by (first | assumption | omega | (unfold rg; omega))⟩, ⟨by (first | assumption | omega | (unfold rg; omega)), by (first | assumption | omega | (unfold rg; omega))⟩, by (first | assumption | omega | (unfold rg; omega)), by (first | assumption | omega | (unfold rg; omega))⟩) dL_areEchoes_86 ?_
                    refine v_aload_n (pc := 87) C 3 rfl rfl dL_areEchoes_87 ?_
                    refine v_iload (pc := 88) C 8 rfl dL_areEchoes_88 ?_
                    refine al_16 (pc := 90) C ⟨by (first | assumption | omega | (unfold rg; omega)), by (first | assumption | omega | (unfold rg; omega))⟩ dL_areEchoes_90 (g 16 0 0 k) (rfl) ?_
                    refine v_iconst (pc := 91) C dL_areEchoes_91 ?_
                    refine v_idiv (pc := 92) C (⟨⟨by (first | assumption | omega | (unfold rg; omega)), by (first | assumption | omega | (unfold rg; omega))⟩, ⟨by (first | assumption | omega | (unfold rg; omega)), by (first | assumption | omega | (unfold rg; omega))⟩, by (first | assumption | omega | (unfold rg; omega)), by (first | assumption | omega | (unfold rg; omega))⟩) dL_areEchoes_92 ?_
                    refine v_icmp_ge (pc := 93) C 101 ⟨by (first | assumption | omega | (unfold rg; omega)), by (first | assumption | omega | (unfold rg; omega))⟩ ⟨by (first | assumption | omega | (unfold rg; omega)), by (first | assumption | omega | (unfold rg; omega))⟩ (by decide) dL_areEchoes_93 (fun h93 => ?_) (fun h93 => ?_)
                    · skip
                      refine v_iload (pc := 101) C 8 rfl dL_areEchoes_101 ?_
                      refine v_istore (pc := 103) C [(7, .int (iI k)), (9, .int (iI 1)), (0, .ref (adr L 0 0 0)), (1, .ref (adr L 14 0 0)), (2, .ref (adr L 16 0 0)), (3, .ref (adr L 17 0 0)), (4, .int (iI a)), (5, .int (iI b)), (6, .int (iI r)), (8, .int (iI x))] (by decide) rfl dL_areEchoes_103 ?_
                      refine v_iinc (pc := 105) C 9 [(8, .int (iI (x + 1))), (7, .int (iI k)), (9, .int (iI 1)), (0, .ref (adr L 0 0 0)), (1, .ref (adr L 14 0 0)), (2, .ref (adr L 16 0 0)), (3, .ref (adr L 17 0 0)), (4, .int (iI a)), (5, .int (iI b)), (6, .int (iI r))] rfl (by decide) rfl dL_areEchoes_105 ?_
                      refine v_goto (pc := 108) C 26 (by decide) dL_areEchoes_108 ?_
                      refine v_lsub [3, 4, 5, 6, 7, 8, 9, 1, 0] rfl ?_
                      exact ih26 (x + 1) k (by omega) (by omega) (by first | exact sl_no hsl (by unfold lft; omega) | exact sl_ye hx.1 hsl (by unfold lft; omega) (by omega) | exact sl_ke hx.1 hsl (by omega) (by omega)) (by omega)
                    · skip
                      refine v_iload (pc := 96) C 9 rfl dL_areEchoes_96 ?_
                      refine v_goto (pc := 98) C 103 (by decide) dL_areEchoes_98 ?_
                      refine v_istore (pc := 103) C [(7, .int (iI x)), (9, .int (iI 1)), (0, .ref (adr L 0 0 0)), (1, .ref (adr L 14 0 0)), (2, .ref (adr L 16 0 0)), (3, .ref (adr L 17 0 0)), (4, .int (iI a)), (5, .int (iI b)), (6, .int (iI r)), (8, .int (iI x))] (by decide) rfl dL_areEchoes_103 ?_
                      refine v_iinc (pc := 105) C 9 [(8, .int (iI (x + 1))), (7, .int (iI x)), (9, .int (iI 1)), (0, .ref (adr L 0 0 0)), (1, .ref (adr L 14 0 0)), (2, .ref (adr L 16 0 0)), (3, .ref (adr L 17 0 0)), (4, .int (iI a)), (5, .int (iI b)), (6, .int (iI r))] rfl (by decide) rfl dL_areEchoes_105 ?_
                      refine v_goto (pc := 108) C 26 (by decide) dL_areEchoes_108 ?_
                      refine v_lsub [3, 4, 5, 6, 7, 8, 9, 1, 0] rfl ?_
                      exact ih26 (x + 1) x (by omega) (by omega) (by first | exact sl_no hsl (by unfold lft; omega) | exact sl_ye hx.1 hsl (by unfold lft; omega) (by omega) | exact sl_ke hx.1 hsl (by omega) (by omega)) (by omega)
              · skip
                refine v_aload_n (pc := 46) C 2 rfl rfl dL_areEchoes_46 ?_
                refine v_iload (pc := 47) C 8 rfl dL_areEchoes_47 ?_
                refine al_16 (pc := 49) C ⟨by (first | assumption | omega | (unfold rg; omega)), by (first | assumption | omega | (unfold rg; omega))⟩ dL_areEchoes_49 (g 16 0 0 x) (rfl) ?_
                refine v_iconst (pc := 50) C dL_areEchoes_50 ?_
                refine v_idiv (pc := 51) C (⟨⟨by (first | assumption | omega | (unfold rg; omega)), by (first | assumption | omega | (unfold rg; omega))⟩, ⟨by (first | assumption | omega | (unfold rg; omega)), by (first | assumption | omega | (unfold rg; omega))⟩, by (first | assumption | omega | (unfold rg; omega)), by (first | assumption | omega | (unfold rg; omega))⟩) dL_areEchoes_51 ?_
                refine v_iload (pc := 52) C 4 rfl dL_areEchoes_52 ?_
                refine v_icmp_ne (pc := 54) C 68 ⟨by (first | assumption | omega | (unfold rg; omega)), by (first | assumption | omega | (unfold rg; omega))⟩ ⟨by (first | assumption | omega | (unfold rg; omega)), by (first | assumption | omega | (unfold rg; omega))⟩ (by decide) dL_areEchoes_54 (fun h54 => ?_) (fun h54 => ?_)
                · skip
                  refine v_iconst (pc := 68) C dL_areEchoes_68 ?_
                  refine v_istore (pc := 69) C [(9, .int (iI 0)), (0, .ref (adr L 0 0 0)), (1, .ref (adr L 14 0 0)), (2, .ref (adr L 16 0 0)), (3, .ref (adr L 17 0 0)), (4, .int (iI a)), (5, .int (iI b)), (6, .int (iI r)), (7, .int (iI k)), (8, .int (iI x))] (by decide) rfl dL_areEchoes_69 ?_
                  refine v_iload (pc := 71) C 0 rfl dL_areEchoes_71 ?_
                  refine v_if_eq (pc := 73) C 101 ⟨by (first | assumption | omega | (unfold rg; omega)), by (first | assumption | omega | (unfold rg; omega))⟩ (by decide) dL_areEchoes_73 (fun h73 => ?_) (fun h73 => ?_)
                  · skip
                    refine v_iload (pc := 101) C 8 rfl dL_areEchoes_101 ?_
                    refine v_istore (pc := 103) C [(7, .int (iI k)), (9, .int (iI 0)), (0, .ref (adr L 0 0 0)), (1, .ref (adr L 14 0 0)), (2, .ref (adr L 16 0 0)), (3, .ref (adr L 17 0 0)), (4, .int (iI a)), (5, .int (iI b)), (6, .int (iI r)), (8, .int (iI x))] (by decide) rfl dL_areEchoes_103 ?_
                    refine v_iinc (pc := 105) C 9 [(8, .int (iI (x + 1))), (7, .int (iI k)), (9, .int (iI 0)), (0, .ref (adr L 0 0 0)), (1, .ref (adr L 14 0 0)), (2, .ref (adr L 16 0 0)), (3, .ref (adr L 17 0 0)), (4, .int (iI a)), (5, .int (iI b)), (6, .int (iI r))] rfl (by decide) rfl dL_areEchoes_105 ?_
                    refine v_goto (pc := 108) C 26 (by decide) dL_areEchoes_108 ?_
                    refine v_lsub [3, 4, 5, 6, 7, 8, 9, 1, 0] rfl ?_
                    exact ih26 (x + 1) k (by omega) (by omega) (by first | exact sl_no hsl (by unfold lft; omega) | exact sl_ye hx.1 hsl (by unfold lft; omega) (by omega) | exact sl_ke hx.1 hsl (by omega) (by omega)) (by omega)
                  · skip
                    exfalso; omega
                · skip
                  refine v_iload (pc := 57) C 8 rfl dL_areEchoes_57 ?_
                  refine v_iload (pc := 59) C 5 rfl dL_areEchoes_59 ?_
                  refine v_icmp_le (pc := 61) C 68 ⟨by (first | assumption | omega | (unfold rg; omega)), by (first | assumption | omega | (unfold rg; omega))⟩ ⟨by (first | assumption | omega | (unfold rg; omega)), by (first | assumption | omega | (unfold rg; omega))⟩ (by decide) dL_areEchoes_61 (fun h61 => ?_) (fun h61 => ?_)
                  · skip
                    refine v_iconst (pc := 68) C dL_areEchoes_68 ?_
                    refine v_istore (pc := 69) C [(9, .int (iI 0)), (0, .ref (adr L 0 0 0)), (1, .ref (adr L 14 0 0)), (2, .ref (adr L 16 0 0)), (3, .ref (adr L 17 0 0)), (4, .int (iI a)), (5, .int (iI b)), (6, .int (iI r)), (7, .int (iI k)), (8, .int (iI x))] (by decide) rfl dL_areEchoes_69 ?_
                    refine v_iload (pc := 71) C 0 rfl dL_areEchoes_71 ?_
                    refine v_if_eq (pc := 73) C 101 ⟨by (first | assumption | omega | (unfold rg; omega)), by (first | assumption | omega | (unfold rg; omega))⟩ (by decide) dL_areEchoes_73 (fun h73 => ?_) (fun h73 => ?_)
                    · skip
                      refine v_iload (pc := 101) C 8 rfl dL_areEchoes_101 ?_
                      refine v_istore (pc := 103) C [(7, .int (iI k)), (9, .int (iI 0)), (0, .ref (adr L 0 0 0)), (1, .ref (adr L 14 0 0)), (2, .ref (adr L 16 0 0)), (3, .ref (adr L 17 0 0)), (4, .int (iI a)), (5, .int (iI b)), (6, .int (iI r)), (8, .int (iI x))] (by decide) rfl dL_areEchoes_103 ?_
                      refine v_iinc (pc := 105) C 9 [(8, .int (iI (x + 1))), (7, .int (iI k)), (9, .int (iI 0)), (0, .ref (adr L 0 0 0)), (1, .ref (adr L 14 0 0)), (2, .ref (adr L 16 0 0)), (3, .ref (adr L 17 0 0)), (4, .int (iI a)), (5, .int (iI b)), (6, .int (iI r))] rfl (by decide) rfl dL_areEchoes_105 ?_
                      refine v_goto (pc := 108) C 26 (by decide) dL_areEchoes_108 ?_
                      refine v_lsub [3, 4, 5, 6, 7, 8, 9, 1, 0] rfl ?_
                      exact ih26 (x + 1) k (by omega) (by omega) (by first | exact sl_no hsl (by unfold lft; omega) | exact sl_ye hx.1 hsl (by unfold lft; omega) (by omega) | exact sl_ke hx.1 hsl (by omega) (by omega)) (by omega)
                    · skip
                      exfalso; omega
                  · skip
                    refine v_iconst (pc := 64) C dL_areEchoes_64 ?_
                    refine v_goto (pc := 65) C 69 (by decide) dL_areEchoes_65 ?_
                    refine v_istore (pc := 69) C [(9, .int (iI 1)), (0, .ref (adr L 0 0 0)), (1, .ref (adr L 14 0 0)), (2, .ref (adr L 16 0 0)), (3, .ref (adr L 17 0 0)), (4, .int (iI a)), (5, .int (iI b)), (6, .int (iI r)), (7, .int (iI k)), (8, .int (iI x))] (by decide) rfl dL_areEchoes_69 ?_
                    refine v_iload (pc := 71) C 0 rfl dL_areEchoes_71 ?_
                    refine v_if_eq (pc := 73) C 101 ⟨by (first | assumption | omega | (unfold rg; omega)), by (first | assumption | omega | (unfold rg; omega))⟩ (by decide) dL_areEchoes_73 (fun h73 => ?_) (fun h73 => ?_)
                    · skip
                      exfalso; omega
                    · skip
                      refine v_iload (pc := 76) C 8 rfl dL_areEchoes_76 ?_
                      refine v_if_lt (pc := 78) C 96 ⟨by (first | assumption | omega | (unfold rg; omega)), by (first | assumption | omega | (unfold rg; omega))⟩ (by decide) dL_areEchoes_78 (fun h78 => ?_) (fun h78 => ?_)
                      · skip
                        refine v_iload (pc := 96) C 9 rfl dL_areEchoes_96 ?_
                        refine v_goto (pc := 98) C 103 (by decide) dL_areEchoes_98 ?_
                        refine v_istore (pc := 103) C [(7, .int (iI x)), (9, .int (iI 1)), (0, .ref (adr L 0 0 0)), (1, .ref (adr L 14 0 0)), (2, .ref (adr L 16 0 0)), (3, .ref (adr L 17 0 0)), (4, .int (iI a)), (5, .int (iI b)), (6, .int (iI r)), (8, .int (iI x))] (by decide) rfl dL_areEchoes_103 ?_
                        refine v_iinc (pc := 105) C 9 [(8, .int (iI (x + 1))), (7, .int (iI x)), (9, .int (iI 1)), (0, .ref (adr L 0 0 0)), (1, .ref (adr L 14 0 0)), (2, .ref (adr L 16 0 0)), (3, .ref (adr L 17 0 0)), (4, .int (iI a)), (5, .int (iI b)), (6, .int (iI r))] rfl (by decide) rfl dL_areEchoes_105 ?_
                        refine v_goto (pc := 108) C 26 (by decide) dL_areEchoes_108 ?_
                        refine v_lsub [3, 4, 5, 6, 7, 8, 9, 1, 0] rfl ?_
                        exact ih26 (x + 1) x (by omega) (by omega) (by first | exact sl_no hsl (by unfold lft; omega) | exact sl_ye hx.1 hsl (by unfold lft; omega) (by omega) | exact sl_ke hx.1 hsl (by omega) (by omega)) (by omega)
                      · skip
                        have hek := qEc k (by omega) (by omega)
                        have hek2 := heR.2 k (by omega) (by omega)
                        refine v_aload_n (pc := 81) C 3 rfl rfl dL_areEchoes_81 ?_
                        refine v_iload (pc := 82) C 9 rfl dL_areEchoes_82 ?_
                        refine al_16 (pc := 84) C ⟨by (first | assumption | omega | (unfold rg; omega)), by (first | assumption | omega | (unfold rg; omega))⟩ dL_areEchoes_84 (g 16 0 0 x) (rfl) ?_
                        refine v_iconst (pc := 85) C dL_areEchoes_85 ?_
                        refine v_idiv (pc := 86) C (⟨⟨by (first | assumption | omega | (unfold rg; omega)), by (first | assumption | omega | (unfold rg; omega))⟩, ⟨by (first | assumption | omega | (unfold rg; omega)), by (first | assumption | omega | (unfold rg; omega))⟩, by (first | assumption | omega | (unfold rg; omega)), by (first | assumption | omega | (unfold rg; omega))⟩) dL_areEchoes_86 ?_
                        refine v_aload_n (pc := 87) C 3 rfl rfl dL_areEchoes_87 ?_
                        refine v_iload (pc := 88) C 8 rfl dL_areEchoes_88 ?_
                        refine al_16 (pc := 90) C ⟨by (first | assumption | omega | (unfold rg; omega)), by (first | assumption | omega | (unfold rg; omega))⟩ dL_areEchoes_90 (g 16 0 0 k) (rfl) ?_
                        refine v_iconst (pc := 91) C dL_areEchoes_91 ?_
                        refine v_idiv (pc := 92) C (⟨⟨by (first | assumption | omega | (unfold rg; omega)), by (first | assumption | omega | (unfold rg; omega))⟩, ⟨by (first | assumption | omega | (unfold rg; omega)), by (first | assumption | omega | (unfold rg; omega))⟩, by (first | assumption | omega | (unfold rg; omega)), by (first | assumption | omega | (unfold rg; omega))⟩) dL_areEchoes_92 ?_
                        refine v_icmp_ge (pc := 93) C 101 ⟨by (first | assumption | omega | (unfold rg; omega)), by (first | assumption | omega | (unfold rg; omega))⟩ ⟨by (first | assumption | omega | (unfold rg; omega)), by (first | assumption | omega | (unfold rg; omega))⟩ (by decide) dL_areEchoes_93 (fun h93 => ?_) (fun h93 => ?_)
                        · skip
                          refine v_iload (pc := 101) C 8 rfl dL_areEchoes_101 ?_
                          refine v_istore (pc := 103) C [(7, .int (iI k)), (9, .int (iI 1)), (0, .ref (adr L 0 0 0)), (1, .ref (adr L 14 0 0)), (2, .ref (adr L 16 0 0)), (3, .ref (adr L 17 0 0)), (4, .int (iI a)), (5, .int (iI b)), (6, .int (iI r)), (8, .int (iI x))] (by decide) rfl dL_areEchoes_103 ?_
                          refine v_iinc (pc := 105) C 9 [(8, .int (iI (x + 1))), (7, .int (iI k)), (9, .int (iI 1)), (0, .ref (adr L 0 0 0)), (1, .ref (adr L 14 0 0)), (2, .ref (adr L 16 0 0)), (3, .ref (adr L 17 0 0)), (4, .int (iI a)), (5, .int (iI b)), (6, .int (iI r))] rfl (by decide) rfl dL_areEchoes_105 ?_
                          refine v_goto (pc := 108) C 26 (by decide) dL_areEchoes_108 ?_
                          refine v_lsub [3, 4, 5, 6, 7, 8, 9, 1, 0] rfl ?_
                          exact ih26 (x + 1) k (by omega) (by omega) (by first | exact sl_no hsl (by unfold lft; omega) | exact sl_ye hx.1 hsl (by unfold lft; omega) (by omega) | exact sl_ke hx.1 hsl (by omega) (by omega)) (by omega)
                        · skip
                          refine v_iload (pc := 96) C 9 rfl dL_areEchoes_96 ?_
                          refine v_goto (pc := 98) C 103 (by decide) dL_areEchoes_98 ?_
                          refine v_istore (pc := 103) C [(7, .int (iI x)), (9, .int (iI 1)), (0, .ref (adr L 0 0 0)), (1, .ref (adr L 14 0 0)), (2, .ref (adr L 16 0 0)), (3, .ref (adr L 17 0 0)), (4, .int (iI a)), (5, .int (iI b)), (6, .int (iI r)), (8, .int (iI x))] (by decide) rfl dL_areEchoes_103 ?_
                          refine v_iinc (pc := 105) C 9 [(8, .int (iI (x + 1))), (7, .int (iI x)), (9, .int (iI 1)), (0, .ref (adr L 0 0 0)), (1, .ref (adr L 14 0 0)), (2, .ref (adr L 16 0 0)), (3, .ref (adr L 17 0 0)), (4, .int (iI a)), (5, .int (iI b)), (6, .int (iI r))] rfl (by decide) rfl dL_areEchoes_105 ?_
                          refine v_goto (pc := 108) C 26 (by decide) dL_areEchoes_108 ?_
                          refine v_lsub [3, 4, 5, 6, 7, 8, 9, 1, 0] rfl ?_
                          exact ih26 (x + 1) x (by omega) (by omega) (by first | exact sl_no hsl (by unfold lft; omega) | exact sl_ye hx.1 hsl (by unfold lft; omega) (by omega) | exact sl_ke hx.1 hsl (by omega) (by omega)) (by omega)
        refine v_lsub [2, 3, 4, 5, 6, 7, 8, 1, 0] rfl ?_
        exact lb26 _ 0 (-1) (by omega) (by omega) (by exact sl_0 g a b) (Nat.lt_succ_self _)
  refine v_lsub [3, 4, 5, 6, 2, 1, 0] rfl ?_
  exact lb11 _ 0 (g 14 0 0 3) (-1) (by omega) (by omega) (by omega) (by exact rk_first hq (by decide)) (by exact fun hx => qu_0 hx.symm) (Nat.lt_succ_self _)
