
theorem cw_RL_111 : CWs RL 111 yL_calls cL_calls 9 (some .int) 6 := ⟨u_16_11, u_16_12, u_3_22, u_16_13, by decide +kernel⟩
theorem cw_RL_115 : CWs RL 115 yL_hasRoom cL_hasRoom 6 (some .boolean) 4 := ⟨u_16_20, u_16_21, u_3_22, u_16_22, by decide +kernel⟩
theorem cw_RL_119 : CWs RL 119 yL_passes cL_passes 7 (some .int) 5 := ⟨u_16_23, u_17_0, u_3_22, u_17_1, by decide +kernel⟩
set_option maxHeartbeats 4000000 in
set_option maxRecDepth 100000 in
theorem ct_L_due (l : Launch) (L : Lay) (g : St) (k a b : Int) (hk : 0 ≤ k ∧ k ≤ 4) (hh2 : duH g k a b) (hq : wq g 1) : Met l yL_due (.code yL_due cL_due 11 (some .int) :: wsL_law) { frames := 3, cells := 0, slots := 0, locals := 84 } (va_Pc [.int (iI k), .int (iI a), .int (iI b), .ref (adr L 14 0 0), .ref (adr L 15 0 0), .ref (adr L 16 0 0), .ref (adr L 17 0 0)] (HS L g)) (va_Qi (fun (r9 : Int32) (u : St) => ∃ z : Int, r9 = iI z ∧ (duR5 g u k a b z)) (fun u t => HS L u t) (Af L)) 0 0 (Af L) := by
  refine ct_mk (by decide +kernel) (Nat.le_of_ble_eq_true rfl) ?_
  intro pp ee ss mm bel mth cx C hr hlk
  show V pp l ee { frames := 3, cells := 0, slots := 0, locals := 84 } ss mm ([.int (iI k), .int (iI a), .int (iI b), .ref (adr L 14 0 0), .ref (adr L 15 0 0), .ref (adr L 16 0 0), .ref (adr L 17 0 0)]).toArray bel mth cx 11 L (HH L g) 0 0 _ 0 [(0, .int (iI k)), (1, .int (iI a)), (2, .int (iI b)), (3, .ref (adr L 14 0 0)), (4, .ref (adr L 15 0 0)), (5, .ref (adr L 16 0 0)), (6, .ref (adr L 17 0 0))] []
  obtain ⟨qS0, qS1, qS2, qB0, qB1, qCl, qN, qPl, qEc⟩ := wq_s hq
  obtain ⟨d0, d1, d2, d3, d4⟩ := id hh2
  have lw9 := lw_in b (n := 9) (by decide)
  have lw2 := lw_in b (n := 2) (by decide)
  refine v_iload_n (pc := 0) C 0 rfl rfl dL_due_0 ?_
  by_cases h1_0 : k = 0
  · skip
    refine v_tableIn (pc := 1) (o := 31) C 32 ⟨by (first | assumption | omega | (unfold rg; omega)), by (first | assumption | omega | (unfold rg; omega))⟩ (by (first | assumption | omega | (unfold rg; omega))) (by (first | assumption | omega | (unfold rg; omega))) (by rw [h1_0]; rfl) (by decide) dL_due_1 ?_
    have d := d0 h1_0
    clear d0 d1 d2 d3 d4 hh2
    refine v_iload_n (pc := 32) C 1 rfl rfl dL_due_32 ?_
    refine v_iload_n (pc := 33) C 2 rfl rfl dL_due_33 ?_
    refine v_aload_n (pc := 34) C 3 rfl rfl dL_due_34 ?_
    refine v_aload (pc := 35) C 4 rfl dL_due_35 ?_
    refine v_aload (pc := 37) C 5 rfl dL_due_37 ?_
    refine v_aload (pc := 39) C 6 rfl dL_due_39 ?_
    refine v_calliS (pc := 41) C cw_RL_111 (ct_L_calls l L g a b (by exact hq) (by exact d.1) (by exact d.2.1) (by exact d.2.2)) ⟨Nat.le_of_ble_eq_true rfl, Nat.le_of_ble_eq_true rfl⟩ rfl (Nat.le_of_ble_eq_true rfl) ⟨Nat.le_of_ble_eq_true rfl, Nat.le_of_ble_eq_true rfl⟩ rfl dL_due_41 (fun r9 u9 hP_1 => ?_)
    obtain ⟨hP_1, hP_1b⟩ := hP_1
    rw [hP_1, hP_1b]
    clear hP_1 hP_1b r9 u9
    exact v_iret (pc := 44) C hr hlk (⟨_, rfl, Or.inl ⟨h1_0, rfl, rfl⟩⟩) dL_due_44
  by_cases h1_1 : k = 1
  · skip
    refine v_tableIn (pc := 1) (o := 44) C 45 ⟨by (first | assumption | omega | (unfold rg; omega)), by (first | assumption | omega | (unfold rg; omega))⟩ (by (first | assumption | omega | (unfold rg; omega))) (by (first | assumption | omega | (unfold rg; omega))) (by rw [h1_1]; rfl) (by decide) dL_due_1 ?_
    have d := d1 h1_1
    have hpl := qPl a d.1.1 d.1.2
    clear d0 d1 d2 d3 d4 hh2 qEc qPl hq
    refine v_aload (pc := 45) C 4 rfl dL_due_45 ?_
    refine v_bipush (pc := 47) C rfl dL_due_47 ?_
    refine v_iload_n (pc := 49) C 1 rfl rfl dL_due_49 ?_
    refine v_imul (pc := 50) C dL_due_50 ?_
    refine al_15 (pc := 51) C ⟨by (first | assumption | omega | (unfold rg; omega)), by (first | assumption | omega | (unfold rg; omega))⟩ dL_due_51 (g 15 0 0 (6 * a)) (rfl) ?_
    refine v_iload_n (pc := 52) C 2 rfl rfl dL_due_52 ?_
    refine v_iadd (pc := 53) C dL_due_53 ?_
    refine v_istore (pc := 54) C [(7, .int (iI ((g 15 0 0 (6 * a)) + b))), (0, .int (iI k)), (1, .int (iI a)), (2, .int (iI b)), (3, .ref (adr L 14 0 0)), (4, .ref (adr L 15 0 0)), (5, .ref (adr L 16 0 0)), (6, .ref (adr L 17 0 0))] (by decide) rfl dL_due_54 ?_
    refine v_iload (pc := 56) C 0 rfl dL_due_56 ?_
    refine v_if_lt (pc := 58) C 73 ⟨by (first | assumption | omega | (unfold rg; omega)), by (first | assumption | omega | (unfold rg; omega))⟩ (by decide) dL_due_58 (fun h58 => ?_) (fun h58 => ?_)
    · skip
      refine v_iconst (pc := 73) C dL_due_73 ?_
      refine v_istore (pc := 74) C [(8, .int (iI 0)), (7, .int (iI ((g 15 0 0 (6 * a)) + b))), (0, .int (iI k)), (1, .int (iI a)), (2, .int (iI b)), (3, .ref (adr L 14 0 0)), (4, .ref (adr L 15 0 0)), (5, .ref (adr L 16 0 0)), (6, .ref (adr L 17 0 0))] (by decide) rfl dL_due_74 ?_
      refine v_aload_n (pc := 76) C 5 rfl rfl dL_due_76 ?_
      refine v_bipush (pc := 77) C rfl dL_due_77 ?_
      refine v_dup2 (pc := 79) C rfl rfl dL_due_79 ?_
      refine al_14 (pc := 80) C ⟨by (first | assumption | omega | (unfold rg; omega)), by (first | assumption | omega | (unfold rg; omega))⟩ dL_due_80 (g 14 0 0 7) (rfl) ?_
      refine v_iload (pc := 81) C 0 rfl dL_due_81 ?_
      refine v_if_eq (pc := 83) C 90 ⟨by (first | assumption | omega | (unfold rg; omega)), by (first | assumption | omega | (unfold rg; omega))⟩ (by decide) dL_due_83 (fun h83 => ?_) (fun h83 => ?_)
      · skip
        refine v_iconst (pc := 90) C dL_due_90 ?_
        refine v_iadd (pc := 91) C dL_due_91 ?_
        refine as_14 (pc := 92) C ⟨by (first | assumption | omega | (unfold rg; omega)), by (first | assumption | omega | (unfold rg; omega))⟩ dL_due_92 ?_
        refine v_aload (pc := 93) C 6 rfl dL_due_93 ?_
        refine v_bipush (pc := 95) C rfl dL_due_95 ?_
        refine v_iload_n (pc := 97) C 3 rfl rfl dL_due_97 ?_
        refine v_imul (pc := 98) C dL_due_98 ?_
        refine v_iload (pc := 99) C 0 rfl dL_due_99 ?_
        refine v_if_eq (pc := 101) C 109 ⟨by (first | assumption | omega | (unfold rg; omega)), by (first | assumption | omega | (unfold rg; omega))⟩ (by decide) dL_due_101 (fun h101 => ?_) (fun h101 => ?_)
        · skip
          refine v_aload (pc := 109) C 6 rfl dL_due_109 ?_
          refine v_bipush (pc := 111) C rfl dL_due_111 ?_
          refine v_iload_n (pc := 113) C 3 rfl rfl dL_due_113 ?_
          refine v_imul (pc := 114) C dL_due_114 ?_
          refine al_15 (pc := 115) C ⟨by (first | assumption | omega | (unfold rg; omega)), by (first | assumption | omega | (unfold rg; omega))⟩ dL_due_115 (g 15 0 0 (6 * a)) (by simp [up]) ?_
          refine as_15 (pc := 116) C ⟨by (first | assumption | omega | (unfold rg; omega)), by (first | assumption | omega | (unfold rg; omega))⟩ dL_due_116 ?_
          refine v_iload (pc := 117) C 0 rfl dL_due_117 ?_
          refine v_if_eq (pc := 119) C 127 ⟨by (first | assumption | omega | (unfold rg; omega)), by (first | assumption | omega | (unfold rg; omega))⟩ (by decide) dL_due_119 (fun h119 => ?_) (fun h119 => ?_)
          · skip
            refine v_iconst (pc := 127) C dL_due_127 ?_
            exact v_iret (pc := 128) C hr hlk (⟨_, rfl, Or.inr (Or.inl ⟨h1_1, by unfold lvR; first | rw [if_pos ⟨by omega, by omega⟩] | rw [if_neg (by omega)], by unfold lvG; first | (rw [if_pos ⟨by omega, by omega⟩]; funext f' k' j' i'; simp only [up]; grind) | (rw [if_neg (by omega)]; funext f' k' j' i'; simp only [up]; grind)⟩)⟩) dL_due_128
          · skip
            exfalso; omega
        · skip
          exfalso; omega
      · skip
        exfalso; omega
    · skip
      refine v_iload (pc := 61) C 0 rfl dL_due_61 ?_
      refine v_aload_n (pc := 63) C 4 rfl rfl dL_due_63 ?_
      refine v_iconst (pc := 64) C dL_due_64 ?_
      refine al_14 (pc := 65) C ⟨by (first | assumption | omega | (unfold rg; omega)), by (first | assumption | omega | (unfold rg; omega))⟩ dL_due_65 (g 14 0 0 0) (rfl) ?_
      refine v_icmp_gt (pc := 66) C 73 ⟨by (first | assumption | omega | (unfold rg; omega)), by (first | assumption | omega | (unfold rg; omega))⟩ ⟨by (first | assumption | omega | (unfold rg; omega)), by (first | assumption | omega | (unfold rg; omega))⟩ (by decide) dL_due_66 (fun h66 => ?_) (fun h66 => ?_)
      · skip
        refine v_iconst (pc := 73) C dL_due_73 ?_
        refine v_istore (pc := 74) C [(8, .int (iI 0)), (7, .int (iI ((g 15 0 0 (6 * a)) + b))), (0, .int (iI k)), (1, .int (iI a)), (2, .int (iI b)), (3, .ref (adr L 14 0 0)), (4, .ref (adr L 15 0 0)), (5, .ref (adr L 16 0 0)), (6, .ref (adr L 17 0 0))] (by decide) rfl dL_due_74 ?_
        refine v_aload_n (pc := 76) C 5 rfl rfl dL_due_76 ?_
        refine v_bipush (pc := 77) C rfl dL_due_77 ?_
        refine v_dup2 (pc := 79) C rfl rfl dL_due_79 ?_
        refine al_14 (pc := 80) C ⟨by (first | assumption | omega | (unfold rg; omega)), by (first | assumption | omega | (unfold rg; omega))⟩ dL_due_80 (g 14 0 0 7) (rfl) ?_
        refine v_iload (pc := 81) C 0 rfl dL_due_81 ?_
        refine v_if_eq (pc := 83) C 90 ⟨by (first | assumption | omega | (unfold rg; omega)), by (first | assumption | omega | (unfold rg; omega))⟩ (by decide) dL_due_83 (fun h83 => ?_) (fun h83 => ?_)
        · skip
          refine v_iconst (pc := 90) C dL_due_90 ?_
          refine v_iadd (pc := 91) C dL_due_91 ?_
          refine as_14 (pc := 92) C ⟨by (first | assumption | omega | (unfold rg; omega)), by (first | assumption | omega | (unfold rg; omega))⟩ dL_due_92 ?_
          refine v_aload (pc := 93) C 6 rfl dL_due_93 ?_
          refine v_bipush (pc := 95) C rfl dL_due_95 ?_
          refine v_iload_n (pc := 97) C 3 rfl rfl dL_due_97 ?_
          refine v_imul (pc := 98) C dL_due_98 ?_
          refine v_iload (pc := 99) C 0 rfl dL_due_99 ?_
          refine v_if_eq (pc := 101) C 109 ⟨by (first | assumption | omega | (unfold rg; omega)), by (first | assumption | omega | (unfold rg; omega))⟩ (by decide) dL_due_101 (fun h101 => ?_) (fun h101 => ?_)
          · skip
            refine v_aload (pc := 109) C 6 rfl dL_due_109 ?_
            refine v_bipush (pc := 111) C rfl dL_due_111 ?_
            refine v_iload_n (pc := 113) C 3 rfl rfl dL_due_113 ?_
            refine v_imul (pc := 114) C dL_due_114 ?_
            refine al_15 (pc := 115) C ⟨by (first | assumption | omega | (unfold rg; omega)), by (first | assumption | omega | (unfold rg; omega))⟩ dL_due_115 (g 15 0 0 (6 * a)) (by simp [up]) ?_
            refine as_15 (pc := 116) C ⟨by (first | assumption | omega | (unfold rg; omega)), by (first | assumption | omega | (unfold rg; omega))⟩ dL_due_116 ?_
            refine v_iload (pc := 117) C 0 rfl dL_due_117 ?_
            refine v_if_eq (pc := 119) C 127 ⟨by (first | assumption | omega | (unfold rg; omega)), by (first | assumption | omega | (unfold rg; omega))⟩ (by decide) dL_due_119 (fun h119 => ?_) (fun h119 => ?_)
            · skip
              refine v_iconst (pc := 127) C dL_due_127 ?_
              exact v_iret (pc := 128) C hr hlk (⟨_, rfl, Or.inr (Or.inl ⟨h1_1, by unfold lvR; first | rw [if_pos ⟨by omega, by omega⟩] | rw [if_neg (by omega)], by unfold lvG; first | (rw [if_pos ⟨by omega, by omega⟩]; funext f' k' j' i'; simp only [up]; grind) | (rw [if_neg (by omega)]; funext f' k' j' i'; simp only [up]; grind)⟩)⟩) dL_due_128
            · skip
              exfalso; omega
          · skip
            exfalso; omega
        · skip
          exfalso; omega
      · skip
        refine v_iconst (pc := 69) C dL_due_69 ?_
        refine v_goto (pc := 70) C 74 (by decide) dL_due_70 ?_
        refine v_istore (pc := 74) C [(8, .int (iI 1)), (7, .int (iI ((g 15 0 0 (6 * a)) + b))), (0, .int (iI k)), (1, .int (iI a)), (2, .int (iI b)), (3, .ref (adr L 14 0 0)), (4, .ref (adr L 15 0 0)), (5, .ref (adr L 16 0 0)), (6, .ref (adr L 17 0 0))] (by decide) rfl dL_due_74 ?_
        refine v_aload_n (pc := 76) C 5 rfl rfl dL_due_76 ?_
        refine v_bipush (pc := 77) C rfl dL_due_77 ?_
        refine v_dup2 (pc := 79) C rfl rfl dL_due_79 ?_
        refine al_14 (pc := 80) C ⟨by (first | assumption | omega | (unfold rg; omega)), by (first | assumption | omega | (unfold rg; omega))⟩ dL_due_80 (g 14 0 0 7) (rfl) ?_
        refine v_iload (pc := 81) C 0 rfl dL_due_81 ?_
        refine v_if_eq (pc := 83) C 90 ⟨by (first | assumption | omega | (unfold rg; omega)), by (first | assumption | omega | (unfold rg; omega))⟩ (by decide) dL_due_83 (fun h83 => ?_) (fun h83 => ?_)
        · skip
          exfalso; omega
        · skip
          refine v_iconst (pc := 86) C dL_due_86 ?_
          refine v_goto (pc := 87) C 91 (by decide) dL_due_87 ?_
          refine v_iadd (pc := 91) C dL_due_91 ?_
          refine as_14 (pc := 92) C ⟨by (first | assumption | omega | (unfold rg; omega)), by (first | assumption | omega | (unfold rg; omega))⟩ dL_due_92 ?_
          refine v_aload (pc := 93) C 6 rfl dL_due_93 ?_
          refine v_bipush (pc := 95) C rfl dL_due_95 ?_
          refine v_iload_n (pc := 97) C 3 rfl rfl dL_due_97 ?_
          refine v_imul (pc := 98) C dL_due_98 ?_
          refine v_iload (pc := 99) C 0 rfl dL_due_99 ?_
          refine v_if_eq (pc := 101) C 109 ⟨by (first | assumption | omega | (unfold rg; omega)), by (first | assumption | omega | (unfold rg; omega))⟩ (by decide) dL_due_101 (fun h101 => ?_) (fun h101 => ?_)
          · skip
            exfalso; omega
          · skip
            refine v_iload (pc := 104) C 1 rfl dL_due_104 ?_
            refine v_goto (pc := 106) C 116 (by decide) dL_due_106 ?_
            refine as_15 (pc := 116) C ⟨by (first | assumption | omega | (unfold rg; omega)), by (first | assumption | omega | (unfold rg; omega))⟩ dL_due_116 ?_
            refine v_iload (pc := 117) C 0 rfl dL_due_117 ?_
            refine v_if_eq (pc := 119) C 127 ⟨by (first | assumption | omega | (unfold rg; omega)), by (first | assumption | omega | (unfold rg; omega))⟩ (by decide) dL_due_119 (fun h119 => ?_) (fun h119 => ?_)
            · skip
              exfalso; omega
            · skip
              refine v_iload (pc := 122) C 1 rfl dL_due_122 ?_
              refine v_goto (pc := 124) C 128 (by decide) dL_due_124 ?_
              exact v_iret (pc := 128) C hr hlk (⟨_, rfl, Or.inr (Or.inl ⟨h1_1, by unfold lvR; first | rw [if_pos ⟨by omega, by omega⟩] | rw [if_neg (by omega)], by unfold lvG; first | (rw [if_pos ⟨by omega, by omega⟩]; funext f' k' j' i'; simp only [up]; grind) | (rw [if_neg (by omega)]; funext f' k' j' i'; simp only [up]; grind)⟩)⟩) dL_due_128
  by_cases h1_2 : k = 2
  · skip
    refine v_tableIn (pc := 1) (o := 128) C 129 ⟨by (first | assumption | omega | (unfold rg; omega)), by (first | assumption | omega | (unfold rg; omega))⟩ (by (first | assumption | omega | (unfold rg; omega))) (by (first | assumption | omega | (unfold rg; omega))) (by rw [h1_2]; rfl) (by decide) dL_due_1 ?_
    have d := d2 h1_2
    clear d0 d1 d2 d3 d4 hh2
    refine v_aload_n (pc := 129) C 3 rfl rfl dL_due_129 ?_
    refine v_iconst (pc := 130) C dL_due_130 ?_
    refine al_14 (pc := 131) C ⟨by (first | assumption | omega | (unfold rg; omega)), by (first | assumption | omega | (unfold rg; omega))⟩ dL_due_131 (g 14 0 0 4) (rfl) ?_
    refine v_istore (pc := 132) C [(9, .int (iI (g 14 0 0 4))), (0, .int (iI k)), (1, .int (iI a)), (2, .int (iI b)), (3, .ref (adr L 14 0 0)), (4, .ref (adr L 15 0 0)), (5, .ref (adr L 16 0 0)), (6, .ref (adr L 17 0 0))] (by decide) rfl dL_due_132 ?_
    refine v_aload_n (pc := 134) C 4 rfl rfl dL_due_134 ?_
    refine v_iconst (pc := 135) C dL_due_135 ?_
    refine v_iload_n (pc := 136) C 2 rfl rfl dL_due_136 ?_
    refine as_14 (pc := 137) C ⟨by (first | assumption | omega | (unfold rg; omega)), by (first | assumption | omega | (unfold rg; omega))⟩ dL_due_137 ?_
    refine v_aload_n (pc := 138) C 4 rfl rfl dL_due_138 ?_
    refine v_iconst (pc := 139) C dL_due_139 ?_
    refine v_iconst (pc := 140) C dL_due_140 ?_
    refine v_iload_n (pc := 141) C 3 rfl rfl dL_due_141 ?_
    refine v_bipush (pc := 142) C rfl dL_due_142 ?_
    refine v_calliS (pc := 144) C cw_RL_101 (ct_L_low l L (up g 14 0 0 4 a) b 9 (by unfold rg; omega) (by first | assumption | omega | (unfold rg; omega))) ⟨Nat.le_of_ble_eq_true rfl, Nat.le_of_ble_eq_true rfl⟩ rfl (Nat.le_of_ble_eq_true rfl) ⟨Nat.le_of_ble_eq_true rfl, Nat.le_of_ble_eq_true rfl⟩ rfl dL_due_144 (fun r9 u9 hP_2 => ?_)
    obtain ⟨hP_2, hP_2b⟩ := hP_2
    rw [hP_2, hP_2b]
    clear hP_2 hP_2b r9 u9
    refine v_iadd (pc := 147) C dL_due_147 ?_
    refine as_14 (pc := 148) C ⟨by (first | assumption | omega | (unfold rg; omega)), by (first | assumption | omega | (unfold rg; omega))⟩ dL_due_148 ?_
    refine v_aload_n (pc := 149) C 4 rfl rfl dL_due_149 ?_
    refine v_bipush (pc := 150) C rfl dL_due_150 ?_
    refine v_iload_n (pc := 152) C 3 rfl rfl dL_due_152 ?_
    refine v_iconst (pc := 153) C dL_due_153 ?_
    refine v_calliS (pc := 154) C cw_RL_101 (ct_L_low l L (up (up g 14 0 0 4 a) 14 0 0 5 (1 + (lw b 9))) b 2 (by unfold rg; omega) (by first | assumption | omega | (unfold rg; omega))) ⟨Nat.le_of_ble_eq_true rfl, Nat.le_of_ble_eq_true rfl⟩ rfl (Nat.le_of_ble_eq_true rfl) ⟨Nat.le_of_ble_eq_true rfl, Nat.le_of_ble_eq_true rfl⟩ rfl dL_due_154 (fun r9 u9 hP_3 => ?_)
    obtain ⟨hP_3, hP_3b⟩ := hP_3
    rw [hP_3, hP_3b]
    clear hP_3 hP_3b r9 u9
    refine v_if_ne (pc := 157) C 164 ⟨by (first | assumption | omega | (unfold rg; omega)), by (first | assumption | omega | (unfold rg; omega))⟩ (by decide) dL_due_157 (fun h157 => ?_) (fun h157 => ?_)
    · skip
      refine v_iconst (pc := 164) C dL_due_164 ?_
      refine as_14 (pc := 165) C ⟨by (first | assumption | omega | (unfold rg; omega)), by (first | assumption | omega | (unfold rg; omega))⟩ dL_due_165 ?_
      refine v_iload (pc := 166) C 0 rfl dL_due_166 ?_
      exact v_iret (pc := 168) C hr hlk (⟨_, rfl, Or.inr (Or.inr (Or.inl ⟨h1_2, rfl, by first | rw [if_pos (by omega)] | rw [if_neg (by omega)]⟩))⟩) dL_due_168
    · skip
      refine v_iconst (pc := 160) C dL_due_160 ?_
      refine v_goto (pc := 161) C 165 (by decide) dL_due_161 ?_
      refine as_14 (pc := 165) C ⟨by (first | assumption | omega | (unfold rg; omega)), by (first | assumption | omega | (unfold rg; omega))⟩ dL_due_165 ?_
      refine v_iload (pc := 166) C 0 rfl dL_due_166 ?_
      exact v_iret (pc := 168) C hr hlk (⟨_, rfl, Or.inr (Or.inr (Or.inl ⟨h1_2, rfl, by first | rw [if_pos (by omega)] | rw [if_neg (by omega)]⟩))⟩) dL_due_168
  by_cases h1_3 : k = 3
  · skip
    refine v_tableIn (pc := 1) (o := 168) C 169 ⟨by (first | assumption | omega | (unfold rg; omega)), by (first | assumption | omega | (unfold rg; omega))⟩ (by (first | assumption | omega | (unfold rg; omega))) (by (first | assumption | omega | (unfold rg; omega))) (by rw [h1_3]; rfl) (by decide) dL_due_1 ?_
    have d := d3 h1_3
    clear d0 d1 d2 d3 d4 hh2
    refine v_aload_n (pc := 169) C 3 rfl rfl dL_due_169 ?_
    refine v_iload_n (pc := 170) C 1 rfl rfl dL_due_170 ?_
    refine al_14 (pc := 171) C ⟨by (first | assumption | omega | (unfold rg; omega)), by (first | assumption | omega | (unfold rg; omega))⟩ dL_due_171 (g 14 0 0 a) (rfl) ?_
    refine v_istore (pc := 172) C [(10, .int (iI (g 14 0 0 a))), (0, .int (iI k)), (1, .int (iI a)), (2, .int (iI b)), (3, .ref (adr L 14 0 0)), (4, .ref (adr L 15 0 0)), (5, .ref (adr L 16 0 0)), (6, .ref (adr L 17 0 0))] (by decide) rfl dL_due_172 ?_
    refine v_iload_n (pc := 174) C 2 rfl rfl dL_due_174 ?_
    refine v_if_ne (pc := 175) C 193 ⟨by (first | assumption | omega | (unfold rg; omega)), by (first | assumption | omega | (unfold rg; omega))⟩ (by decide) dL_due_175 (fun h175 => ?_) (fun h175 => ?_)
    · skip
      refine v_aload_n (pc := 193) C 4 rfl rfl dL_due_193 ?_
      refine v_iload_n (pc := 194) C 2 rfl rfl dL_due_194 ?_
      refine v_iload_n (pc := 195) C 3 rfl rfl dL_due_195 ?_
      refine as_14 (pc := 196) C ⟨by (first | assumption | omega | (unfold rg; omega)), by (first | assumption | omega | (unfold rg; omega))⟩ dL_due_196 ?_
      refine v_iload (pc := 197) C 0 rfl dL_due_197 ?_
      exact v_iret (pc := 199) C hr hlk (⟨_, rfl, Or.inr (Or.inr (Or.inr (Or.inl ⟨h1_3, Or.inr ⟨rfl, rfl, by first | exact fun _ => hrm | exact fun hx => absurd hx (by assumption)⟩⟩)))⟩) dL_due_199
    · skip
      refine v_iload_n (pc := 178) C 3 rfl rfl dL_due_178 ?_
      refine v_aload_n (pc := 179) C 4 rfl rfl dL_due_179 ?_
      refine v_aload (pc := 180) C 5 rfl dL_due_180 ?_
      refine v_aload (pc := 182) C 7 rfl dL_due_182 ?_
      refine v_calliS (pc := 184) C cw_RL_115 (ct_L_hasRoom l L g b (by exact hq) (by omega)) ⟨Nat.le_of_ble_eq_true rfl, Nat.le_of_ble_eq_true rfl⟩ rfl (Nat.le_of_ble_eq_true rfl) ⟨Nat.le_of_ble_eq_true rfl, Nat.le_of_ble_eq_true rfl⟩ rfl dL_due_184 (fun r9 u9 hP_4 => ?_)
      obtain ⟨hP_4, hP_4b⟩ := hP_4
      rw [hP_4, hP_4b]
      clear hP_4 hP_4b r9 u9
      refine v_if_ne (pc := 187) C 193 ⟨by split <;> decide, by split <;> decide⟩ (by decide) dL_due_187 (fun h187 => ?_) (fun h187 => ?_)
      · skip
        have hrm : lrN g ≤ b := Decidable.byContradiction (fun hx => by rw [if_neg hx] at h187; exact absurd rfl h187)
        refine v_aload_n (pc := 193) C 4 rfl rfl dL_due_193 ?_
        refine v_iload_n (pc := 194) C 2 rfl rfl dL_due_194 ?_
        refine v_iload_n (pc := 195) C 3 rfl rfl dL_due_195 ?_
        refine as_14 (pc := 196) C ⟨by (first | assumption | omega | (unfold rg; omega)), by (first | assumption | omega | (unfold rg; omega))⟩ dL_due_196 ?_
        refine v_iload (pc := 197) C 0 rfl dL_due_197 ?_
        exact v_iret (pc := 199) C hr hlk (⟨_, rfl, Or.inr (Or.inr (Or.inr (Or.inl ⟨h1_3, Or.inr ⟨rfl, rfl, by first | exact fun _ => hrm | exact fun hx => absurd hx (by assumption)⟩⟩)))⟩) dL_due_199
      · skip
        have hrm : ¬ lrN g ≤ b := fun hx => h187 (by rw [if_pos hx]; decide)
        refine v_bipush (pc := 190) C rfl dL_due_190 ?_
        exact v_iret (pc := 192) C hr hlk (⟨_, rfl, Or.inr (Or.inr (Or.inr (Or.inl ⟨h1_3, Or.inl ⟨rfl, rfl, by omega, hrm⟩⟩)))⟩) dL_due_192
  refine v_tableOut (pc := 1) C 200 ⟨by (first | assumption | omega | (unfold rg; omega)), by (first | assumption | omega | (unfold rg; omega))⟩ (by (first | assumption | omega | (unfold rg; omega))) (by decide) dL_due_1 ?_
  have d := d4 (by omega)
  clear d0 d1 d2 d3 d4 hh2
  refine v_iload_n (pc := 200) C 1 rfl rfl dL_due_200 ?_
  refine v_aload_n (pc := 201) C 3 rfl rfl dL_due_201 ?_
  refine v_aload (pc := 202) C 4 rfl dL_due_202 ?_
  refine v_aload (pc := 204) C 5 rfl dL_due_204 ?_
  refine v_aload (pc := 206) C 6 rfl dL_due_206 ?_
  refine v_calliS (pc := 208) C cw_RL_119 (ct_L_passes l L g a (by omega) (by exact hq) (by exact d.2.1) (by exact d.2.2)) ⟨Nat.le_of_ble_eq_true rfl, Nat.le_of_ble_eq_true rfl⟩ rfl (Nat.le_of_ble_eq_true rfl) ⟨Nat.le_of_ble_eq_true rfl, Nat.le_of_ble_eq_true rfl⟩ rfl dL_due_208 (fun r9 u_6 hP_5 => ?_)
  obtain ⟨z_7, rfl, hP_5⟩ := hP_5
  exact v_iret (pc := 211) C hr hlk (⟨_, rfl, Or.inr (Or.inr (Or.inr (Or.inr ⟨by omega, hP_5⟩)))⟩) dL_due_211
