/-! the digest -/
theorem smN_in {g : St} {k d w : Int} (h : wf g k d) (hc : ctr g k) (hw : 0 ≤ w ∧ w ≤ 6) : 0 ≤ smN g k w ∧ smN g k w ≤ 4000000 := by
  have h0 := plN_in (p := 0) h hc (by decide) hw
  have h1 := plN_in (p := 1) h hc (by decide) hw
  have h2 := plN_in (p := 2) h hc (by decide) hw
  have h3 := plN_in (p := 3) h hc (by decide) hw
  unfold smN; omega
theorem ctN_rg {g : St} {d w : Int} (h : wf g 0 d) (hc : ctr g 0) (h8 : 0 ≤ g 8 0 0 1 ∧ g 8 0 0 1 ≤ 6) (hr : 0 ≤ g 1 0 0 1 ∧ g 1 0 0 1 ≤ 100000000) : rg (ctN g w) := by
  have s2 := smN_in (w := 2) h hc (by decide)
  have s4 := smN_in (w := 4) h hc (by decide)
  have s5 := smN_in (w := 5) h hc (by decide)
  have s6 := smN_in (w := 6) h hc (by decide)
  have s1 := smN_in (w := 1) h hc (by decide)
  obtain ⟨hS0, hS1, hS2, hB0, hB1, hB2, hCl, hN, -⟩ := h
  unfold ctN nbN rg; (repeat' split) <;> omega
theorem ecN_rg {g : St} {k d r w : Int} (h : wf g k d) (hd : 0 ≤ d) : rg (ecN g k r w) := by
  obtain ⟨hS0, hS1, hS2, hB0, hB1, hB2, hCl, hN, hPl, hPm, hPj, hEc, hSo⟩ := h
  unfold ecN; split
  · unfold rg; omega
  · have he := hEc r (by omega) (by omega)
    unfold okE at he
    unfold eF rg; (repeat' split) <;> omega
theorem bst_in (g : St) (k : Int) : 0 ≤ bst g k ∧ bst g k ≤ 3 := by
  unfold bst btr; (repeat' split) <;> omega
theorem qui_rg {g : St} {k d : Int} (h : wf g k d) (hd : 0 ≤ d) : rg (if 0 < g 1 k 0 2 then eF g k (g 1 k 0 2 - 1) 3 - g 1 k 0 0 else 0) := by
  obtain ⟨hS0, hS1, hS2, hB0, hB1, hB2, hCl, hN, hPl, hPm, hPj, hEc, hSo⟩ := h
  split
  · have he := hEc (g 1 k 0 2 - 1) (by omega) (by omega)
    unfold okE at he
    unfold eF rg; omega
  · decide
def ceH (g : St) : Nat → Int → Int
  | 0, h => h
  | n + 1, h => hs (fun w => ecN g 0 n w) 6 (ceH g n h)
theorem ceH_s (g : St) {i h : Int} (hi : 0 ≤ i) : ceH g (i + 1).toNat h = hs (fun w => ecN g 0 i w) 6 (ceH g i.toNat h) := by
  rw [show (i + 1).toNat = i.toNat + 1 by omega, ceH, show ((i.toNat : Nat) : Int) = i by omega]
def cpA (g : St) : Nat → Int → Int
  | 0, h => h
  | n + 1, h => mpN g (cpA g n h) n
theorem cpA_s (g : St) {i h : Int} (hi : 0 ≤ i) : cpA g (i + 1).toNat h = mpN g (cpA g i.toNat h) i := by
  rw [show (i + 1).toNat = i.toNat + 1 by omega, cpA, show ((i.toNat : Nat) : Int) = i by omega]
def cd1 (g : St) : Int := hs (fun i => g 2 0 0 i) 3 (hs (fun w => ctN g w) 12 (3467))
def cd2 (g : St) : Int := mbN g (mbN g (ceH g (g 1 0 0 2).toNat (cpA g 4 (cd1 g))) 7) 50
def cqu (g : St) : Int := if 0 < g 1 0 0 2 then eF g 0 (g 1 0 0 2 - 1) 3 - g 1 0 0 0 else 0
def cd3 (g : St) : Int := 31 * (31 * (31 * cd2 g + cqu g) + bst g 0) + ((shK g 0).toNat : Int)
def cd4 (g : St) : Int := 31 * hs (fun i => g 11 0 0 i) 2 (cd3 g) + g 12 0 0 1
def dgC (g : St) : Int := hs (fun i => cdA g i) (g 12 0 0 1).toNat (cd4 g)
theorem mbN_sb (g : St) (t h t2 : Int) : mbN (sbG g t) h t2 = mbN g h t2 := by unfold mbN; rw [bnN_sb, bnN_sb, bnN_sb]
theorem ctr_sb {g : St} (t : Int) (h : ctr g 0) : ctr (sbG g t) 0 := by unfold ctr; rw [sbG_f g t (f := 6) (by decide)]; exact h
theorem smN_sb (g : St) (t w : Int) : smN (sbG g t) 0 w = smN g 0 w := by
  unfold smN plN eOf pOf; rw [sbG_f g t (f := 6) (by decide), sbG_f g t (f := 1) (by decide), sbG_f g t (f := 5) (by decide), sbG_f g t (f := 7) (by decide)]
theorem shK_sb (g : St) (t : Int) : shK (sbG g t) 0 = shK g 0 := by unfold shK; rw [smN_sb, smN_sb, smN_sb]
theorem bst_sb (g : St) (t : Int) : bst (sbG g t) 0 = bst g 0 := by unfold bst btr; rw [sbG_f g t (f := 6) (by decide)]
theorem cqu_sb (g : St) (t : Int) : cqu (sbG g t) = cqu g := by unfold cqu eF; rw [sbG_f g t (f := 1) (by decide), sbG_f g t (f := 5) (by decide), sbG_f g t (f := 7) (by decide)]

theorem cw_RX6_197 : CW RX6 197 RX1 yX1_shareAnswered cX1_shareAnswered 3 (some .double) 0 := ⟨u_33_18, u_33_19, u_33_20, u_1_15, u_33_21, by decide +kernel⟩
theorem cw_RX6_207 : CW RX6 207 RX6 yX6_mixedWithPlayer cX6_mixedWithPlayer 7 (some .long) 2 := ⟨u_34_16, u_34_17, u_34_18, u_1_2, u_34_19, by decide +kernel⟩
theorem cw_RX6_214 : CW RX6 214 RX6 yX6_mixedWithBall cX6_mixedWithBall 7 (some .long) 2 := ⟨u_34_20, u_34_21, u_34_22, u_1_2, u_34_23, by decide +kernel⟩
theorem cw_RX6_217 : CWs RX6 217 yX6_bitsOf cX6_bitsOf 7 (some .long) 1 := ⟨u_35_0, u_35_1, u_1_2, u_35_2, by decide +kernel⟩
set_option maxHeartbeats 4000000 in
set_option maxRecDepth 100000 in
theorem ct_X6_answeredShare (l : Launch) (L : Lay) (g : St) (hw : wf g 0 1) (hct : ctr g 0) : Met l yX6_answeredShare (.code yX6_answeredShare cX6_answeredShare 1 (some .double) :: wsL_law) { frames := 4, cells := 0, slots := 0, locals := 90 } (va_Pc [.ref (adr L 0 0 0)] (HS L g)) (va_Qd (fun (r9 : UInt64) (u9 : St) => r9 = (shK g 0) ∧ u9 = g) (fun u t => HS L u t) (Af L)) 0 0 (Af L) := by
  refine ct_mk (by decide +kernel) (Nat.le_of_ble_eq_true rfl) ?_
  intro pp ee ss mm bel mth cx C hr hlk
  show V pp l ee { frames := 4, cells := 0, slots := 0, locals := 90 } ss mm ([.ref (adr L 0 0 0)]).toArray bel mth cx 1 L (HH L g) 0 0 _ 0 [(0, .ref (adr L 0 0 0))] []
  have s4 := smN_in (w := 4) hw hct (by decide)
  have s5 := smN_in (w := 5) hw hct (by decide)
  have s6 := smN_in (w := 6) hw hct (by decide)
  refine v_aload_n (pc := 0) C 0 rfl rfl dX6_answeredShare_0 ?_
  refine gt_0_0 (pc := 1) C u_1_16 dX6_answeredShare_1 ?_
  refine v_calldV (pc := 4) C cw_RX6_197 (rcv_1 ⟨by (first | assumption | omega), by (first | assumption | omega)⟩) (ct_X1_shareAnswered l L g 0 (by first | assumption | omega) (by first | assumption | omega) (by first | assumption | omega) (by first | assumption | omega) (by first | assumption | omega)) ⟨Nat.le_of_ble_eq_true rfl, Nat.le_of_ble_eq_true rfl⟩ rfl (Nat.le_of_ble_eq_true rfl) ⟨Nat.le_of_ble_eq_true rfl, Nat.le_of_ble_eq_true rfl⟩ rfl dX6_answeredShare_4 (fun r9 u9 hP_1 => ?_)
  obtain ⟨hP_1, hP_1b⟩ := hP_1
  rw [hP_1, hP_1b]
  clear hP_1 hP_1b r9 u9
  exact v_dret (pc := 7) C hr hlk (⟨rfl, rfl⟩) dX6_answeredShare_7
set_option maxHeartbeats 4000000 in
set_option maxRecDepth 100000 in
theorem ct_X6_digest (l : Launch) (L : Lay) (g : St) (hw : wf g 0 1) (hct : ctr g 0) (ht : wt g) (h8 : 0 ≤ g 8 0 0 1 ∧ g 8 0 0 1 ≤ 6) (hrf : 0 ≤ g 1 0 0 1 ∧ g 1 0 0 1 ≤ 100000000) (hkp : ∀ i, 0 ≤ i → i < 2 → g 11 0 0 i = 0 ∨ g 11 0 0 i = 1) : Met l yX6_digest (.code yX6_digest cX6_digest 5 (some .long) :: wsL_law) { frames := 5, cells := 0, slots := 0, locals := 119 } (va_Pc [.ref (adr L 0 0 0)] (HS L g)) (va_Ql (fun (r9 : Int64) (u9 : St) => r9 = lI (dgC g) ∧ u9 = (sbG g 50)) (fun u t => HS L u t) (Af L)) 0 0 (Af L) := by
  refine ct_mk (by decide +kernel) (Nat.le_of_ble_eq_true rfl) ?_
  intro pp ee ss mm bel mth cx C hr hlk
  show V pp l ee { frames := 5, cells := 0, slots := 0, locals := 119 } ss mm ([.ref (adr L 0 0 0)]).toArray bel mth cx 5 L (HH L g) 0 0 _ 0 [(0, .ref (adr L 0 0 0))] []
  obtain ⟨hS0, hS1, hS2, hB0, hB1, hB2, hCl, hN, hPl, hPm, hPj, hEc, hSo⟩ := id hw
  obtain ⟨htl, -⟩ := id ht
  have s4 := smN_in (w := 4) hw hct (by decide)
  have s5 := smN_in (w := 5) hw hct (by decide)
  have s6 := smN_in (w := 6) hw hct (by decide)
  have hwb := sbG_wf 50 hw
  have hcb := ctr_sb 50 hct
  have hf : ∀ f : Nat, f ≠ 3 → sbG g 50 f = g f := fun f h => sbG_f g 50 h
  obtain ⟨fc, fq, hfF⟩ : ∃ c q, shK g 0 = 0 ∨ flF (shK g 0) c q := by (rcases sh_F (a := smN g 0 4) (b := smN g 0 4 + smN g 0 5 + smN g 0 6) (by omega) (by omega) (by omega) with h | ⟨c, q, h⟩; exact ⟨0, 0, Or.inl h⟩; exact ⟨c, q, Or.inr h⟩)
  have htb : wt (sbG g 50) := by (unfold wt; rw [hf 12 (by decide), hf 13 (by decide)]; exact ht)
  refine v_ldc2 (pc := 0) (z := 3467) C (by decide +kernel) u_34_10 dX6_digest_0 ?_
  refine v_lstore_n (pc := 3) C [(1, .long (lI 3467)), (0, .ref (adr L 0 0 0))] rfl (by decide) rfl dX6_digest_3 ?_
  refine v_iconst (pc := 4) C dX6_digest_4 ?_
  refine v_istore_n (pc := 5) C [(3, .int (iI 0)), (1, .long (lI 3467)), (0, .ref (adr L 0 0 0))] rfl (by decide) rfl dX6_digest_5 ?_
  have lb6 : ∀ (n9 : Nat) (h : Int) (i : Int), (0 ≤ i ∧ i ≤ 12) → (h = hs (fun w => ctN g w) i.toNat (3467)) → (12 - i).toNat < n9 → V pp l ee { frames := 5, cells := 0, slots := 0, locals := 119 } ss mm ([.ref (adr L 0 0 0)]).toArray bel mth cx 5 L (HH L g) 0 0 (MQ bel (va_Ql (fun (r9 : Int64) (u9 : St) => r9 = lI (dgC g) ∧ u9 = (sbG g 50)) (fun u t => HS L u t) (Af L)) ([.ref (adr L 0 0 0)]).toArray ss 0 0 (Af L)) 6 [(0, .ref (adr L 0 0 0)), (1, .long (lI h)), (3, .int (iI i))] [] := by
    intro n9
    induction n9 with
    | zero => intro h i hi hh hm9; exact absurd hm9 (Nat.not_lt_zero _)
    | succ n9 ih9 =>
      intro h i hi hh hm9
      have ih6 := ih9
      refine v_iload_n (pc := 6) C 2 rfl rfl dX6_digest_6 ?_
      refine v_bipush (pc := 7) C rfl dX6_digest_7 ?_
      refine v_icmp_ge (pc := 9) C 29 ⟨by (first | assumption | exact hr1.1 | exact hr1.2 | omega), by (first | assumption | exact hr1.1 | exact hr1.2 | omega)⟩ ⟨by (first | assumption | exact hr1.1 | exact hr1.2 | omega), by (first | assumption | exact hr1.1 | exact hr1.2 | omega)⟩ (by decide) dX6_digest_9 (fun h9 => ?_) (fun h9 => ?_)
      · skip
        refine v_iconst (pc := 29) C dX6_digest_29 ?_
        refine v_istore_n (pc := 30) C [(3, .int (iI 0)), (0, .ref (adr L 0 0 0)), (1, .long (lI h))] rfl (by decide) rfl dX6_digest_30 ?_
        have lb31 : ∀ (n9 : Nat) (h : Int) (i : Int), (0 ≤ i ∧ i ≤ 3) → (h = hs (fun i => g 2 0 0 i) i.toNat (hs (fun w => ctN g w) 12 (3467))) → (3 - i).toNat < n9 → V pp l ee { frames := 5, cells := 0, slots := 0, locals := 119 } ss mm ([.ref (adr L 0 0 0)]).toArray bel mth cx 5 L (HH L g) 0 0 (MQ bel (va_Ql (fun (r9 : Int64) (u9 : St) => r9 = lI (dgC g) ∧ u9 = (sbG g 50)) (fun u t => HS L u t) (Af L)) ([.ref (adr L 0 0 0)]).toArray ss 0 0 (Af L)) 31 [(0, .ref (adr L 0 0 0)), (1, .long (lI h)), (3, .int (iI i))] [] := by
          intro n9
          induction n9 with
          | zero => intro h i hi hh hm9; exact absurd hm9 (Nat.not_lt_zero _)
          | succ n9 ih9 =>
            intro h i hi hh hm9
            have ih31 := ih9
            refine v_iload_n (pc := 31) C 2 rfl rfl dX6_digest_31 ?_
            refine v_iconst (pc := 32) C dX6_digest_32 ?_
            refine v_icmp_ge (pc := 33) C 57 ⟨by (first | assumption | exact hr1.1 | exact hr1.2 | omega), by (first | assumption | exact hr1.1 | exact hr1.2 | omega)⟩ ⟨by (first | assumption | exact hr1.1 | exact hr1.2 | omega), by (first | assumption | exact hr1.1 | exact hr1.2 | omega)⟩ (by decide) dX6_digest_33 (fun h33 => ?_) (fun h33 => ?_)
            · skip
              refine v_iconst (pc := 57) C dX6_digest_57 ?_
              refine v_istore_n (pc := 58) C [(3, .int (iI 0)), (0, .ref (adr L 0 0 0)), (1, .long (lI h))] rfl (by decide) rfl dX6_digest_58 ?_
              have lb59 : ∀ (n9 : Nat) (h : Int) (i : Int), (0 ≤ i ∧ i ≤ 4) → (h = cpA g i.toNat (cd1 g)) → (4 - i).toNat < n9 → V pp l ee { frames := 5, cells := 0, slots := 0, locals := 119 } ss mm ([.ref (adr L 0 0 0)]).toArray bel mth cx 5 L (HH L g) 0 0 (MQ bel (va_Ql (fun (r9 : Int64) (u9 : St) => r9 = lI (dgC g) ∧ u9 = (sbG g 50)) (fun u t => HS L u t) (Af L)) ([.ref (adr L 0 0 0)]).toArray ss 0 0 (Af L)) 59 [(0, .ref (adr L 0 0 0)), (1, .long (lI h)), (3, .int (iI i))] [] := by
                intro n9
                induction n9 with
                | zero => intro h i hi hh hm9; exact absurd hm9 (Nat.not_lt_zero _)
                | succ n9 ih9 =>
                  intro h i hi hh hm9
                  have ih59 := ih9
                  refine v_iload_n (pc := 59) C 2 rfl rfl dX6_digest_59 ?_
                  refine v_iconst (pc := 60) C dX6_digest_60 ?_
                  refine v_icmp_ge (pc := 61) C 77 ⟨by (first | assumption | exact hr1.1 | exact hr1.2 | omega), by (first | assumption | exact hr1.1 | exact hr1.2 | omega)⟩ ⟨by (first | assumption | exact hr1.1 | exact hr1.2 | omega), by (first | assumption | exact hr1.1 | exact hr1.2 | omega)⟩ (by decide) dX6_digest_61 (fun h61 => ?_) (fun h61 => ?_)
                  · skip
                    refine v_iconst (pc := 77) C dX6_digest_77 ?_
                    refine v_istore_n (pc := 78) C [(3, .int (iI 0)), (0, .ref (adr L 0 0 0)), (1, .long (lI h))] rfl (by decide) rfl dX6_digest_78 ?_
                    have lb79 : ∀ (n9 : Nat) (h : Int) (i : Int), (0 ≤ i ∧ i ≤ g 1 0 0 2) → (h = ceH g i.toNat (cpA g 4 (cd1 g))) → (g 1 0 0 2 - i).toNat < n9 → V pp l ee { frames := 5, cells := 0, slots := 0, locals := 119 } ss mm ([.ref (adr L 0 0 0)]).toArray bel mth cx 5 L (HH L g) 0 0 (MQ bel (va_Ql (fun (r9 : Int64) (u9 : St) => r9 = lI (dgC g) ∧ u9 = (sbG g 50)) (fun u t => HS L u t) (Af L)) ([.ref (adr L 0 0 0)]).toArray ss 0 0 (Af L)) 79 [(0, .ref (adr L 0 0 0)), (1, .long (lI h)), (3, .int (iI i))] [] := by
                      intro n9
                      induction n9 with
                      | zero => intro h i hi hh hm9; exact absurd hm9 (Nat.not_lt_zero _)
                      | succ n9 ih9 =>
                        intro h i hi hh hm9
                        have ih79 := ih9
                        refine v_iload_n (pc := 79) C 2 rfl rfl dX6_digest_79 ?_
                        refine v_aload_n (pc := 80) C 0 rfl rfl dX6_digest_80 ?_
                        refine gt_0_0 (pc := 81) C u_1_16 dX6_digest_81 ?_
                        refine gt_1_2 (pc := 84) C ⟨by (first | assumption | exact hr1.1 | exact hr1.2 | omega), by (first | assumption | exact hr1.1 | exact hr1.2 | omega)⟩ u_34_11 dX6_digest_84 (g 1 0 0 2) (rfl) ?_
                        refine v_icmp_ge (pc := 87) C 128 ⟨by (first | assumption | exact hr1.1 | exact hr1.2 | omega), by (first | assumption | exact hr1.1 | exact hr1.2 | omega)⟩ ⟨by (first | assumption | exact hr1.1 | exact hr1.2 | omega), by (first | assumption | exact hr1.1 | exact hr1.2 | omega)⟩ (by decide) dX6_digest_87 (fun h87 => ?_) (fun h87 => ?_)
                        · skip
                          refine v_aload_n (pc := 128) C 0 rfl rfl dX6_digest_128 ?_
                          refine v_lload_n (pc := 129) C 1 rfl rfl dX6_digest_129 ?_
                          refine v_bipush (pc := 130) C rfl dX6_digest_130 ?_
                          refine v_calllV (pc := 132) C cw_RX6_214 rcv_0 (ct_X6_mixedWithBall l L g h 7 (by exact hw) (by first | assumption | exact hr1.1 | exact hr1.2 | omega)) ⟨Nat.le_of_ble_eq_true rfl, Nat.le_of_ble_eq_true rfl⟩ rfl (Nat.le_of_ble_eq_true rfl) ⟨Nat.le_of_ble_eq_true rfl, Nat.le_of_ble_eq_true rfl⟩ rfl dX6_digest_132 (fun r9 u9 hP_1 => ?_)
                          obtain ⟨hP_1, hP_1b⟩ := hP_1
                          rw [hP_1, hP_1b]
                          clear hP_1 hP_1b r9 u9
                          refine v_lstore_n (pc := 135) C [(1, .long (lI (mbN g h 7))), (0, .ref (adr L 0 0 0)), (3, .int (iI i))] rfl (by decide) rfl dX6_digest_135 ?_
                          refine v_aload_n (pc := 136) C 1 rfl rfl dX6_digest_136 ?_
                          refine v_lload_n (pc := 137) C 0 rfl rfl dX6_digest_137 ?_
                          refine v_bipush (pc := 138) C rfl dX6_digest_138 ?_
                          refine v_calllV (pc := 140) C cw_RX6_214 rcv_0 (ct_X6_mixedWithBall l L (sbG g 7) (mbN g h 7) 50 (by exact sbG_wf 7 hw) (by first | assumption | exact hr1.1 | exact hr1.2 | omega)) ⟨Nat.le_of_ble_eq_true rfl, Nat.le_of_ble_eq_true rfl⟩ rfl (Nat.le_of_ble_eq_true rfl) ⟨Nat.le_of_ble_eq_true rfl, Nat.le_of_ble_eq_true rfl⟩ rfl dX6_digest_140 (fun r9 u9 hP_2 => ?_)
                          obtain ⟨hP_2, hP_2b⟩ := hP_2
                          rw [hP_2, hP_2b]
                          clear hP_2 hP_2b r9 u9
                          refine v_topl (b := mbN g (mbN g h 7) 50) C (by rw [mbN_sb]) ?_
                          refine v_st (g2 := sbG g 50) C (sbG_sb g 7 50) ?_
                          refine v_lstore_n (pc := 143) C [(1, .long (lI (mbN g (mbN g h 7) 50))), (0, .ref (adr L 0 0 0)), (3, .int (iI i))] rfl (by decide) rfl dX6_digest_143 ?_
                          refine v_lload_n (pc := 144) C 0 rfl rfl dX6_digest_144 ?_
                          refine v_aload_n (pc := 145) C 1 rfl rfl dX6_digest_145 ?_
                          refine gt_0_0 (pc := 146) C u_1_16 dX6_digest_146 ?_
                          refine v_calliV (pc := 149) C cw_RX6_191 (rcv_1 ⟨by (first | assumption | exact hr1.1 | exact hr1.2 | omega), by (first | assumption | exact hr1.1 | exact hr1.2 | omega)⟩) (ct_X1_turnsToQuiet l L (sbG g 50) 0 1 (by first | assumption | exact hr1.1 | exact hr1.2 | omega) (by exact hwb) (by first | assumption | exact hr1.1 | exact hr1.2 | omega)) ⟨Nat.le_of_ble_eq_true rfl, Nat.le_of_ble_eq_true rfl⟩ rfl (Nat.le_of_ble_eq_true rfl) ⟨Nat.le_of_ble_eq_true rfl, Nat.le_of_ble_eq_true rfl⟩ rfl dX6_digest_149 (fun r9 u9 hP_3 => ?_)
                          obtain ⟨hP_3, hP_3b⟩ := hP_3
                          rw [hP_3, hP_3b]
                          clear hP_3 hP_3b r9 u9
                          refine v_topi (b := cqu g) C (cqu_sb g 50) ?_
                          have hr1 : rg (cqu g) := qui_rg hw (show (0 : Int) ≤ 1 by decide)
                          refine v_i2l (pc := 152) C ⟨by (first | assumption | exact hr1.1 | exact hr1.2 | omega), by (first | assumption | exact hr1.1 | exact hr1.2 | omega)⟩ dX6_digest_152 ?_
                          refine v_calllS (pc := 153) C cw_RX6_203 (ct_X6_mixed l L (sbG g 50) (mbN g (mbN g h 7) 50) (cqu g) ) ⟨Nat.le_of_ble_eq_true rfl, Nat.le_of_ble_eq_true rfl⟩ rfl (Nat.le_of_ble_eq_true rfl) ⟨Nat.le_of_ble_eq_true rfl, Nat.le_of_ble_eq_true rfl⟩ rfl dX6_digest_153 (fun r9 u9 hP_4 => ?_)
                          obtain ⟨hP_4, hP_4b⟩ := hP_4
                          rw [hP_4, hP_4b]
                          clear hP_4 hP_4b r9 u9
                          refine v_lstore_n (pc := 156) C [(1, .long (lI (31 * (mbN g (mbN g h 7) 50) + (cqu g)))), (0, .ref (adr L 0 0 0)), (3, .int (iI i))] rfl (by decide) rfl dX6_digest_156 ?_
                          refine v_lload_n (pc := 157) C 0 rfl rfl dX6_digest_157 ?_
                          refine v_aload_n (pc := 158) C 1 rfl rfl dX6_digest_158 ?_
                          refine gt_0_0 (pc := 159) C u_1_16 dX6_digest_159 ?_
                          refine v_calliV (pc := 162) C cw_RX6_194 (rcv_1 ⟨by (first | assumption | exact hr1.1 | exact hr1.2 | omega), by (first | assumption | exact hr1.1 | exact hr1.2 | omega)⟩) (ct_X1_bestPlayer l L (sbG g 50) 0 (by first | assumption | exact hr1.1 | exact hr1.2 | omega) (by exact hcb)) ⟨Nat.le_of_ble_eq_true rfl, Nat.le_of_ble_eq_true rfl⟩ rfl (Nat.le_of_ble_eq_true rfl) ⟨Nat.le_of_ble_eq_true rfl, Nat.le_of_ble_eq_true rfl⟩ rfl dX6_digest_162 (fun r9 u9 hP_5 => ?_)
                          obtain ⟨hP_5, hP_5b⟩ := hP_5
                          rw [hP_5, hP_5b]
                          clear hP_5 hP_5b r9 u9
                          refine v_topi (b := bst g 0) C (bst_sb g 50) ?_
                          have hbs := bst_in g 0
                          refine v_i2l (pc := 165) C ⟨by (first | assumption | exact hr1.1 | exact hr1.2 | omega), by (first | assumption | exact hr1.1 | exact hr1.2 | omega)⟩ dX6_digest_165 ?_
                          refine v_calllS (pc := 166) C cw_RX6_203 (ct_X6_mixed l L (sbG g 50) (31 * (mbN g (mbN g h 7) 50) + (cqu g)) (bst g 0) ) ⟨Nat.le_of_ble_eq_true rfl, Nat.le_of_ble_eq_true rfl⟩ rfl (Nat.le_of_ble_eq_true rfl) ⟨Nat.le_of_ble_eq_true rfl, Nat.le_of_ble_eq_true rfl⟩ rfl dX6_digest_166 (fun r9 u9 hP_6 => ?_)
                          obtain ⟨hP_6, hP_6b⟩ := hP_6
                          rw [hP_6, hP_6b]
                          clear hP_6 hP_6b r9 u9
                          refine v_lstore_n (pc := 169) C [(1, .long (lI (31 * (31 * (mbN g (mbN g h 7) 50) + (cqu g)) + (bst g 0)))), (0, .ref (adr L 0 0 0)), (3, .int (iI i))] rfl (by decide) rfl dX6_digest_169 ?_
                          refine v_lload_n (pc := 170) C 0 rfl rfl dX6_digest_170 ?_
                          refine v_aload_n (pc := 171) C 1 rfl rfl dX6_digest_171 ?_
                          refine gt_0_0 (pc := 172) C u_1_16 dX6_digest_172 ?_
                          refine v_calldV (pc := 175) C cw_RX6_197 (rcv_1 ⟨by (first | assumption | exact hr1.1 | exact hr1.2 | omega), by (first | assumption | exact hr1.1 | exact hr1.2 | omega)⟩) (ct_X1_shareAnswered l L (sbG g 50) 0 (by first | assumption | exact hr1.1 | exact hr1.2 | omega) (by exact hwb) (by rw [smN_sb]; omega) (by rw [smN_sb]; omega) (by rw [smN_sb]; omega)) ⟨Nat.le_of_ble_eq_true rfl, Nat.le_of_ble_eq_true rfl⟩ rfl (Nat.le_of_ble_eq_true rfl) ⟨Nat.le_of_ble_eq_true rfl, Nat.le_of_ble_eq_true rfl⟩ rfl dX6_digest_175 (fun r9 u9 hP_7 => ?_)
                          obtain ⟨hP_7, hP_7b⟩ := hP_7
                          rw [hP_7, hP_7b]
                          clear hP_7 hP_7b r9 u9
                          refine v_calllS (pc := 178) C cw_RX6_217 (ct_X6_bitsOf l L (sbG g 50) (shK (sbG g 50) 0) fc fq (by rw [shK_sb]; exact hfF)) ⟨Nat.le_of_ble_eq_true rfl, Nat.le_of_ble_eq_true rfl⟩ rfl (Nat.le_of_ble_eq_true rfl) ⟨Nat.le_of_ble_eq_true rfl, Nat.le_of_ble_eq_true rfl⟩ rfl dX6_digest_178 (fun r9 u9 hP_8 => ?_)
                          obtain ⟨hP_8, hP_8b⟩ := hP_8
                          rw [hP_8, hP_8b]
                          clear hP_8 hP_8b r9 u9
                          refine v_topl (b := ((shK g 0).toNat : Int)) C (by rw [shK_sb]) ?_
                          refine v_calllS (pc := 181) C cw_RX6_203 (ct_X6_mixed l L (sbG g 50) (31 * (31 * (mbN g (mbN g h 7) 50) + (cqu g)) + (bst g 0)) ((shK g 0).toNat : Int) ) ⟨Nat.le_of_ble_eq_true rfl, Nat.le_of_ble_eq_true rfl⟩ rfl (Nat.le_of_ble_eq_true rfl) ⟨Nat.le_of_ble_eq_true rfl, Nat.le_of_ble_eq_true rfl⟩ rfl dX6_digest_181 (fun r9 u9 hP_9 => ?_)
                          obtain ⟨hP_9, hP_9b⟩ := hP_9
                          rw [hP_9, hP_9b]
                          clear hP_9 hP_9b r9 u9
                          refine v_lstore_n (pc := 184) C [(1, .long (lI (31 * (31 * (31 * (mbN g (mbN g h 7) 50) + (cqu g)) + (bst g 0)) + ((shK g 0).toNat : Int)))), (0, .ref (adr L 0 0 0)), (3, .int (iI i))] rfl (by decide) rfl dX6_digest_184 ?_
                          refine v_iconst (pc := 185) C dX6_digest_185 ?_
                          refine v_istore_n (pc := 186) C [(3, .int (iI 0)), (1, .long (lI (31 * (31 * (31 * (mbN g (mbN g h 7) 50) + (cqu g)) + (bst g 0)) + ((shK g 0).toNat : Int)))), (0, .ref (adr L 0 0 0))] rfl (by decide) rfl dX6_digest_186 ?_
                          have lb187 : ∀ (n9 : Nat) (h : Int) (i : Int), (0 ≤ i ∧ i ≤ 2) → (h = hs (fun i => g 11 0 0 i) i.toNat (cd3 g)) → (2 - i).toNat < n9 → V pp l ee { frames := 5, cells := 0, slots := 0, locals := 119 } ss mm ([.ref (adr L 0 0 0)]).toArray bel mth cx 5 L (HH L (sbG g 50)) 0 0 (MQ bel (va_Ql (fun (r9 : Int64) (u9 : St) => r9 = lI (dgC g) ∧ u9 = (sbG g 50)) (fun u t => HS L u t) (Af L)) ([.ref (adr L 0 0 0)]).toArray ss 0 0 (Af L)) 187 [(0, .ref (adr L 0 0 0)), (1, .long (lI h)), (3, .int (iI i))] [] := by
                            intro n9
                            induction n9 with
                            | zero => intro h i hi hh hm9; exact absurd hm9 (Nat.not_lt_zero _)
                            | succ n9 ih9 =>
                              intro h i hi hh hm9
                              have ih187 := ih9
                              refine v_iload_n (pc := 187) C 2 rfl rfl dX6_digest_187 ?_
                              refine v_iconst (pc := 188) C dX6_digest_188 ?_
                              refine v_icmp_ge (pc := 189) C 217 ⟨by (first | assumption | exact hr1.1 | exact hr1.2 | omega), by (first | assumption | exact hr1.1 | exact hr1.2 | omega)⟩ ⟨by (first | assumption | exact hr1.1 | exact hr1.2 | omega), by (first | assumption | exact hr1.1 | exact hr1.2 | omega)⟩ (by decide) dX6_digest_189 (fun h189 => ?_) (fun h189 => ?_)
                              · skip
                                refine v_lload_n (pc := 217) C 1 rfl rfl dX6_digest_217 ?_
                                refine v_aload_n (pc := 218) C 0 rfl rfl dX6_digest_218 ?_
                                refine gt_0_4 (pc := 219) C u_2_3 dX6_digest_219 ?_
                                refine gt_12_1 (pc := 222) C u_17_2 dX6_digest_222 (g 12 0 0 1) (by rw [hf 12 (by decide)]) ?_
                                refine v_i2l (pc := 225) C ⟨by (first | assumption | exact hr1.1 | exact hr1.2 | omega), by (first | assumption | exact hr1.1 | exact hr1.2 | omega)⟩ dX6_digest_225 ?_
                                refine v_calllS (pc := 226) C cw_RX6_203 (ct_X6_mixed l L (sbG g 50) h (g 12 0 0 1) ) ⟨Nat.le_of_ble_eq_true rfl, Nat.le_of_ble_eq_true rfl⟩ rfl (Nat.le_of_ble_eq_true rfl) ⟨Nat.le_of_ble_eq_true rfl, Nat.le_of_ble_eq_true rfl⟩ rfl dX6_digest_226 (fun r9 u9 hP_10 => ?_)
                                obtain ⟨hP_10, hP_10b⟩ := hP_10
                                rw [hP_10, hP_10b]
                                clear hP_10 hP_10b r9 u9
                                refine v_lstore_n (pc := 229) C [(1, .long (lI (31 * h + (g 12 0 0 1)))), (0, .ref (adr L 0 0 0)), (3, .int (iI i))] rfl (by decide) rfl dX6_digest_229 ?_
                                refine v_iconst (pc := 230) C dX6_digest_230 ?_
                                refine v_istore_n (pc := 231) C [(3, .int (iI 0)), (1, .long (lI (31 * h + (g 12 0 0 1)))), (0, .ref (adr L 0 0 0))] rfl (by decide) rfl dX6_digest_231 ?_
                                have lb232 : ∀ (n9 : Nat) (h : Int) (i : Int), (0 ≤ i ∧ i ≤ g 12 0 0 1) → (h = hs (fun i => cdA g i) i.toNat (cd4 g)) → (g 12 0 0 1 - i).toNat < n9 → V pp l ee { frames := 5, cells := 0, slots := 0, locals := 119 } ss mm ([.ref (adr L 0 0 0)]).toArray bel mth cx 5 L (HH L (sbG g 50)) 0 0 (MQ bel (va_Ql (fun (r9 : Int64) (u9 : St) => r9 = lI (dgC g) ∧ u9 = (sbG g 50)) (fun u t => HS L u t) (Af L)) ([.ref (adr L 0 0 0)]).toArray ss 0 0 (Af L)) 232 [(0, .ref (adr L 0 0 0)), (1, .long (lI h)), (3, .int (iI i))] [] := by
                                  intro n9
                                  induction n9 with
                                  | zero => intro h i hi hh hm9; exact absurd hm9 (Nat.not_lt_zero _)
                                  | succ n9 ih9 =>
                                    intro h i hi hh hm9
                                    have ih232 := ih9
                                    refine v_iload_n (pc := 232) C 2 rfl rfl dX6_digest_232 ?_
                                    refine v_aload_n (pc := 233) C 0 rfl rfl dX6_digest_233 ?_
                                    refine gt_0_4 (pc := 234) C u_2_3 dX6_digest_234 ?_
                                    refine gt_12_1 (pc := 237) C u_17_2 dX6_digest_237 (g 12 0 0 1) (by rw [hf 12 (by decide)]) ?_
                                    refine v_icmp_ge (pc := 240) C 263 ⟨by (first | assumption | exact hr1.1 | exact hr1.2 | omega), by (first | assumption | exact hr1.1 | exact hr1.2 | omega)⟩ ⟨by (first | assumption | exact hr1.1 | exact hr1.2 | omega), by (first | assumption | exact hr1.1 | exact hr1.2 | omega)⟩ (by decide) dX6_digest_240 (fun h240 => ?_) (fun h240 => ?_)
                                    · skip
                                      refine v_lload_n (pc := 263) C 1 rfl rfl dX6_digest_263 ?_
                                      exact v_lret (pc := 264) C hr hlk (⟨congrArg lI (by rw [hh, show i = g 12 0 0 1 by omega]; rfl), rfl⟩) dX6_digest_264
                                    · skip
                                      refine v_lload_n (pc := 243) C 1 rfl rfl dX6_digest_243 ?_
                                      refine v_aload_n (pc := 244) C 0 rfl rfl dX6_digest_244 ?_
                                      refine gt_0_4 (pc := 245) C u_2_3 dX6_digest_245 ?_
                                      refine v_iload_n (pc := 248) C 2 rfl rfl dX6_digest_248 ?_
                                      refine v_calliV (pc := 249) C cw_RX6_221 rcv_12 (ct_X5_codeAt l L (sbG g 50) i (by exact htb) (by first | assumption | exact hr1.1 | exact hr1.2 | omega)) ⟨Nat.le_of_ble_eq_true rfl, Nat.le_of_ble_eq_true rfl⟩ rfl (Nat.le_of_ble_eq_true rfl) ⟨Nat.le_of_ble_eq_true rfl, Nat.le_of_ble_eq_true rfl⟩ rfl dX6_digest_249 (fun r9 u9 hP_11 => ?_)
                                      obtain ⟨hP_11, hP_11b⟩ := hP_11
                                      rw [hP_11, hP_11b]
                                      clear hP_11 hP_11b r9 u9
                                      refine v_topi (b := cdA g i) C (by unfold cdA; rw [hf 12 (by decide), hf 13 (by decide)]) ?_
                                      have hr1 := cdA_in ht i
                                      refine v_i2l (pc := 252) C ⟨by (first | assumption | exact hr1.1 | exact hr1.2 | omega), by (first | assumption | exact hr1.1 | exact hr1.2 | omega)⟩ dX6_digest_252 ?_
                                      refine v_calllS (pc := 253) C cw_RX6_203 (ct_X6_mixed l L (sbG g 50) h (cdA g i) ) ⟨Nat.le_of_ble_eq_true rfl, Nat.le_of_ble_eq_true rfl⟩ rfl (Nat.le_of_ble_eq_true rfl) ⟨Nat.le_of_ble_eq_true rfl, Nat.le_of_ble_eq_true rfl⟩ rfl dX6_digest_253 (fun r9 u9 hP_12 => ?_)
                                      obtain ⟨hP_12, hP_12b⟩ := hP_12
                                      rw [hP_12, hP_12b]
                                      clear hP_12 hP_12b r9 u9
                                      refine v_lstore_n (pc := 256) C [(1, .long (lI (31 * h + (cdA g i)))), (0, .ref (adr L 0 0 0)), (3, .int (iI i))] rfl (by decide) rfl dX6_digest_256 ?_
                                      refine v_iinc (pc := 257) C 2 [(3, .int (iI (i + 1))), (1, .long (lI (31 * h + (cdA g i)))), (0, .ref (adr L 0 0 0))] rfl (by decide) rfl dX6_digest_257 ?_
                                      refine v_goto (pc := 260) C 232 (by decide) dX6_digest_260 ?_
                                      refine v_lsub [2, 1, 0] rfl ?_
                                      refine v_st (g2 := sbG g 50) C (by rfl) ?_
                                      exact ih232 (31 * h + (cdA g i)) (i + 1) (by omega) (by rw [hs_s _ hi.1, hh]) (by omega)
                                refine v_lsub [2, 1, 0] rfl ?_
                                refine v_st (g2 := sbG g 50) C (by rfl) ?_
                                exact lb232 _ (31 * h + (g 12 0 0 1)) 0 (by omega) (by rw [hh, show i = 2 by omega]; rfl) (Nat.lt_succ_self _)
                              · skip
                                have hki := hkp i (by omega) (by omega)
                                refine v_lload_n (pc := 192) C 1 rfl rfl dX6_digest_192 ?_
                                refine v_aload_n (pc := 193) C 0 rfl rfl dX6_digest_193 ?_
                                refine gt_0_3 (pc := 194) C u_1_23 dX6_digest_194 ?_
                                refine v_iload_n (pc := 197) C 2 rfl rfl dX6_digest_197 ?_
                                refine al_11 (pc := 198) C ⟨by (first | assumption | exact hr1.1 | exact hr1.2 | omega), by (first | assumption | exact hr1.1 | exact hr1.2 | omega)⟩ dX6_digest_198 (g 11 0 0 i) (by rw [hf 11 (by decide)]) ?_
                                refine v_if_eq (pc := 199) C 206 ⟨by (first | assumption | exact hr1.1 | exact hr1.2 | omega), by (first | assumption | exact hr1.1 | exact hr1.2 | omega)⟩ (by decide) dX6_digest_199 (fun h199 => ?_) (fun h199 => ?_)
                                · skip
                                  refine v_lconst (pc := 206) (z := 0) C rfl dX6_digest_206 ?_
                                  refine v_calllS (pc := 207) C cw_RX6_203 (ct_X6_mixed l L (sbG g 50) h 0 ) ⟨Nat.le_of_ble_eq_true rfl, Nat.le_of_ble_eq_true rfl⟩ rfl (Nat.le_of_ble_eq_true rfl) ⟨Nat.le_of_ble_eq_true rfl, Nat.le_of_ble_eq_true rfl⟩ rfl dX6_digest_207 (fun r9 u9 hP_13 => ?_)
                                  obtain ⟨hP_13, hP_13b⟩ := hP_13
                                  rw [hP_13, hP_13b]
                                  clear hP_13 hP_13b r9 u9
                                  refine v_lstore_n (pc := 210) C [(1, .long (lI (31 * h + 0))), (0, .ref (adr L 0 0 0)), (3, .int (iI i))] rfl (by decide) rfl dX6_digest_210 ?_
                                  refine v_iinc (pc := 211) C 2 [(3, .int (iI (i + 1))), (1, .long (lI (31 * h + 0))), (0, .ref (adr L 0 0 0))] rfl (by decide) rfl dX6_digest_211 ?_
                                  refine v_goto (pc := 214) C 187 (by decide) dX6_digest_214 ?_
                                  refine v_lsub [2, 1, 0] rfl ?_
                                  refine v_st (g2 := sbG g 50) C (by rfl) ?_
                                  exact ih187 (31 * h + 0) (i + 1) (by omega) (by rw [hs_s _ hi.1, hh]; omega) (by omega)
                                · skip
                                  refine v_lconst (pc := 202) (z := 1) C rfl dX6_digest_202 ?_
                                  refine v_goto (pc := 203) C 207 (by decide) dX6_digest_203 ?_
                                  refine v_calllS (pc := 207) C cw_RX6_203 (ct_X6_mixed l L (sbG g 50) h 1 ) ⟨Nat.le_of_ble_eq_true rfl, Nat.le_of_ble_eq_true rfl⟩ rfl (Nat.le_of_ble_eq_true rfl) ⟨Nat.le_of_ble_eq_true rfl, Nat.le_of_ble_eq_true rfl⟩ rfl dX6_digest_207 (fun r9 u9 hP_14 => ?_)
                                  obtain ⟨hP_14, hP_14b⟩ := hP_14
                                  rw [hP_14, hP_14b]
                                  clear hP_14 hP_14b r9 u9
                                  refine v_lstore_n (pc := 210) C [(1, .long (lI (31 * h + 1))), (0, .ref (adr L 0 0 0)), (3, .int (iI i))] rfl (by decide) rfl dX6_digest_210 ?_
                                  refine v_iinc (pc := 211) C 2 [(3, .int (iI (i + 1))), (1, .long (lI (31 * h + 1))), (0, .ref (adr L 0 0 0))] rfl (by decide) rfl dX6_digest_211 ?_
                                  refine v_goto (pc := 214) C 187 (by decide) dX6_digest_214 ?_
                                  refine v_lsub [2, 1, 0] rfl ?_
                                  refine v_st (g2 := sbG g 50) C (by rfl) ?_
                                  exact ih187 (31 * h + 1) (i + 1) (by omega) (by rw [hs_s _ hi.1, hh]; omega) (by omega)
                          refine v_lsub [2, 1, 0] rfl ?_
                          refine v_st (g2 := sbG g 50) C (by rfl) ?_
                          exact lb187 _ (31 * (31 * (31 * (mbN g (mbN g h 7) 50) + (cqu g)) + (bst g 0)) + ((shK g 0).toNat : Int)) 0 (by omega) (by rw [hh, show i = g 1 0 0 2 by omega]; rfl) (Nat.lt_succ_self _)
                        · skip
                          refine v_iconst (pc := 90) C dX6_digest_90 ?_
                          refine v_istore (pc := 91) C [(4, .int (iI 0)), (0, .ref (adr L 0 0 0)), (1, .long (lI h)), (3, .int (iI i))] (by decide) rfl dX6_digest_91 ?_
                          have lb93 : ∀ (n9 : Nat) (h : Int) (j : Int), (0 ≤ j ∧ j ≤ 6) → (h = hs (fun w => ecN g 0 i w) j.toNat (ceH g i.toNat (cpA g 4 (cd1 g)))) → (6 - j).toNat < n9 → V pp l ee { frames := 5, cells := 0, slots := 0, locals := 119 } ss mm ([.ref (adr L 0 0 0)]).toArray bel mth cx 5 L (HH L g) 0 0 (MQ bel (va_Ql (fun (r9 : Int64) (u9 : St) => r9 = lI (dgC g) ∧ u9 = (sbG g 50)) (fun u t => HS L u t) (Af L)) ([.ref (adr L 0 0 0)]).toArray ss 0 0 (Af L)) 93 [(0, .ref (adr L 0 0 0)), (1, .long (lI h)), (3, .int (iI i)), (4, .int (iI j))] [] := by
                            intro n9
                            induction n9 with
                            | zero => intro h j hj hh hm9; exact absurd hm9 (Nat.not_lt_zero _)
                            | succ n9 ih9 =>
                              intro h j hj hh hm9
                              have ih93 := ih9
                              refine v_iload (pc := 93) C 3 rfl dX6_digest_93 ?_
                              refine v_bipush (pc := 95) C rfl dX6_digest_95 ?_
                              refine v_icmp_ge (pc := 97) C 122 ⟨by (first | assumption | exact hr1.1 | exact hr1.2 | omega), by (first | assumption | exact hr1.1 | exact hr1.2 | omega)⟩ ⟨by (first | assumption | exact hr1.1 | exact hr1.2 | omega), by (first | assumption | exact hr1.1 | exact hr1.2 | omega)⟩ (by decide) dX6_digest_97 (fun h97 => ?_) (fun h97 => ?_)
                              · skip
                                refine v_iinc (pc := 122) C 2 [(3, .int (iI (i + 1))), (0, .ref (adr L 0 0 0)), (1, .long (lI h)), (4, .int (iI j))] rfl (by decide) rfl dX6_digest_122 ?_
                                refine v_goto (pc := 125) C 79 (by decide) dX6_digest_125 ?_
                                refine v_lsub [1, 2, 0] rfl ?_
                                exact ih79 h (i + 1) (by omega) (by rw [ceH_s _ hi.1, hh, show j = 6 by omega]; rfl) (by omega)
                              · skip
                                refine v_lload_n (pc := 100) C 1 rfl rfl dX6_digest_100 ?_
                                refine v_aload_n (pc := 101) C 0 rfl rfl dX6_digest_101 ?_
                                refine gt_0_0 (pc := 102) C u_1_16 dX6_digest_102 ?_
                                refine v_iload_n (pc := 105) C 2 rfl rfl dX6_digest_105 ?_
                                refine v_iload (pc := 106) C 3 rfl dX6_digest_106 ?_
                                refine v_calliV (pc := 108) C cw_RX6_165 (rcv_1 ⟨by (first | assumption | exact hr1.1 | exact hr1.2 | omega), by (first | assumption | exact hr1.1 | exact hr1.2 | omega)⟩) (ct_X1_echoNumber l L g 0 1 i j (by first | assumption | exact hr1.1 | exact hr1.2 | omega) (by first | assumption | exact hr1.1 | exact hr1.2 | omega) (by first | assumption | exact hr1.1 | exact hr1.2 | omega) (by first | assumption | exact hr1.1 | exact hr1.2 | omega) (by first | assumption | exact hr1.1 | exact hr1.2 | omega)) ⟨Nat.le_of_ble_eq_true rfl, Nat.le_of_ble_eq_true rfl⟩ rfl (Nat.le_of_ble_eq_true rfl) ⟨Nat.le_of_ble_eq_true rfl, Nat.le_of_ble_eq_true rfl⟩ rfl dX6_digest_108 (fun r9 u9 hP_15 => ?_)
                                obtain ⟨hP_15, hP_15b⟩ := hP_15
                                rw [hP_15, hP_15b]
                                clear hP_15 hP_15b r9 u9
                                have hr1 := ecN_rg (k := 0) (r := i) (w := j) hw (show (0 : Int) ≤ 1 by decide)
                                refine v_i2l (pc := 111) C ⟨by (first | assumption | exact hr1.1 | exact hr1.2 | omega), by (first | assumption | exact hr1.1 | exact hr1.2 | omega)⟩ dX6_digest_111 ?_
                                refine v_calllS (pc := 112) C cw_RX6_203 (ct_X6_mixed l L g h (ecN g 0 i j) ) ⟨Nat.le_of_ble_eq_true rfl, Nat.le_of_ble_eq_true rfl⟩ rfl (Nat.le_of_ble_eq_true rfl) ⟨Nat.le_of_ble_eq_true rfl, Nat.le_of_ble_eq_true rfl⟩ rfl dX6_digest_112 (fun r9 u9 hP_16 => ?_)
                                obtain ⟨hP_16, hP_16b⟩ := hP_16
                                rw [hP_16, hP_16b]
                                clear hP_16 hP_16b r9 u9
                                refine v_lstore_n (pc := 115) C [(1, .long (lI (31 * h + (ecN g 0 i j)))), (0, .ref (adr L 0 0 0)), (3, .int (iI i)), (4, .int (iI j))] rfl (by decide) rfl dX6_digest_115 ?_
                                refine v_iinc (pc := 116) C 3 [(4, .int (iI (j + 1))), (1, .long (lI (31 * h + (ecN g 0 i j)))), (0, .ref (adr L 0 0 0)), (3, .int (iI i))] rfl (by decide) rfl dX6_digest_116 ?_
                                refine v_goto (pc := 119) C 93 (by decide) dX6_digest_119 ?_
                                refine v_lsub [2, 1, 3, 0] rfl ?_
                                exact ih93 (31 * h + (ecN g 0 i j)) (j + 1) (by omega) (by rw [hs_s _ hj.1, hh]) (by omega)
                          refine v_lsub [1, 2, 3, 0] rfl ?_
                          exact lb93 _ h 0 (by omega) (by rw [hh]; rfl) (Nat.lt_succ_self _)
                    refine v_lsub [1, 2, 0] rfl ?_
                    exact lb79 _ h 0 (by omega) (by rw [hh, show i = 4 by omega]; rfl) (Nat.lt_succ_self _)
                  · skip
                    refine v_aload_n (pc := 64) C 0 rfl rfl dX6_digest_64 ?_
                    refine v_lload_n (pc := 65) C 1 rfl rfl dX6_digest_65 ?_
                    refine v_iload_n (pc := 66) C 2 rfl rfl dX6_digest_66 ?_
                    refine v_calllV (pc := 67) C cw_RX6_207 rcv_0 (ct_X6_mixedWithPlayer l L g h i (by first | assumption | exact hr1.1 | exact hr1.2 | omega) (by first | assumption | exact hr1.1 | exact hr1.2 | omega) (by first | assumption | exact hr1.1 | exact hr1.2 | omega)) ⟨Nat.le_of_ble_eq_true rfl, Nat.le_of_ble_eq_true rfl⟩ rfl (Nat.le_of_ble_eq_true rfl) ⟨Nat.le_of_ble_eq_true rfl, Nat.le_of_ble_eq_true rfl⟩ rfl dX6_digest_67 (fun r9 u9 hP_17 => ?_)
                    obtain ⟨hP_17, hP_17b⟩ := hP_17
                    rw [hP_17, hP_17b]
                    clear hP_17 hP_17b r9 u9
                    refine v_lstore_n (pc := 70) C [(1, .long (lI (mpN g h i))), (0, .ref (adr L 0 0 0)), (3, .int (iI i))] rfl (by decide) rfl dX6_digest_70 ?_
                    refine v_iinc (pc := 71) C 2 [(3, .int (iI (i + 1))), (1, .long (lI (mpN g h i))), (0, .ref (adr L 0 0 0))] rfl (by decide) rfl dX6_digest_71 ?_
                    refine v_goto (pc := 74) C 59 (by decide) dX6_digest_74 ?_
                    refine v_lsub [2, 1, 0] rfl ?_
                    exact ih59 (mpN g h i) (i + 1) (by omega) (by rw [cpA_s _ hi.1, hh]) (by omega)
              refine v_lsub [1, 2, 0] rfl ?_
              exact lb59 _ h 0 (by omega) (by rw [hh, show i = 3 by omega]; rfl) (Nat.lt_succ_self _)
            · skip
              refine v_lload_n (pc := 36) C 1 rfl rfl dX6_digest_36 ?_
              refine v_aload_n (pc := 37) C 0 rfl rfl dX6_digest_37 ?_
              refine gt_0_0 (pc := 38) C u_1_16 dX6_digest_38 ?_
              refine gt_1_3 (pc := 41) C ⟨by (first | assumption | exact hr1.1 | exact hr1.2 | omega), by (first | assumption | exact hr1.1 | exact hr1.2 | omega)⟩ u_12_5 dX6_digest_41 ?_
              refine v_iload_n (pc := 44) C 2 rfl rfl dX6_digest_44 ?_
              refine al_2 (pc := 45) C ⟨by (first | assumption | exact hr1.1 | exact hr1.2 | omega), by (first | assumption | exact hr1.1 | exact hr1.2 | omega)⟩ ⟨by (first | assumption | exact hr1.1 | exact hr1.2 | omega), by (first | assumption | exact hr1.1 | exact hr1.2 | omega)⟩ dX6_digest_45 (g 2 0 0 i) (rfl) ?_
              have hr1 : rg (g 2 0 0 i) := by (have hi3 : i = 0 ∨ i = 1 ∨ i = 2 := by omega); rcases hi3 with h | h | h <;> subst h <;> (unfold rg; omega)
              refine v_i2l (pc := 46) C ⟨by (first | assumption | exact hr1.1 | exact hr1.2 | omega), by (first | assumption | exact hr1.1 | exact hr1.2 | omega)⟩ dX6_digest_46 ?_
              refine v_calllS (pc := 47) C cw_RX6_203 (ct_X6_mixed l L g h (g 2 0 0 i) ) ⟨Nat.le_of_ble_eq_true rfl, Nat.le_of_ble_eq_true rfl⟩ rfl (Nat.le_of_ble_eq_true rfl) ⟨Nat.le_of_ble_eq_true rfl, Nat.le_of_ble_eq_true rfl⟩ rfl dX6_digest_47 (fun r9 u9 hP_18 => ?_)
              obtain ⟨hP_18, hP_18b⟩ := hP_18
              rw [hP_18, hP_18b]
              clear hP_18 hP_18b r9 u9
              refine v_lstore_n (pc := 50) C [(1, .long (lI (31 * h + (g 2 0 0 i)))), (0, .ref (adr L 0 0 0)), (3, .int (iI i))] rfl (by decide) rfl dX6_digest_50 ?_
              refine v_iinc (pc := 51) C 2 [(3, .int (iI (i + 1))), (1, .long (lI (31 * h + (g 2 0 0 i)))), (0, .ref (adr L 0 0 0))] rfl (by decide) rfl dX6_digest_51 ?_
              refine v_goto (pc := 54) C 31 (by decide) dX6_digest_54 ?_
              refine v_lsub [2, 1, 0] rfl ?_
              exact ih31 (31 * h + (g 2 0 0 i)) (i + 1) (by omega) (by rw [hs_s _ hi.1, hh]) (by omega)
        refine v_lsub [1, 2, 0] rfl ?_
        exact lb31 _ h 0 (by omega) (by rw [hh, show i = 12 by omega]; rfl) (Nat.lt_succ_self _)
      · skip
        refine v_lload_n (pc := 12) C 1 rfl rfl dX6_digest_12 ?_
        refine v_aload_n (pc := 13) C 0 rfl rfl dX6_digest_13 ?_
        refine v_iload_n (pc := 14) C 2 rfl rfl dX6_digest_14 ?_
        refine v_calliV (pc := 15) C cw_RX6_168 rcv_0 (ct_X6_countNumber l L g i (by first | assumption | exact hr1.1 | exact hr1.2 | omega) (by first | assumption | exact hr1.1 | exact hr1.2 | omega)) ⟨Nat.le_of_ble_eq_true rfl, Nat.le_of_ble_eq_true rfl⟩ rfl (Nat.le_of_ble_eq_true rfl) ⟨Nat.le_of_ble_eq_true rfl, Nat.le_of_ble_eq_true rfl⟩ rfl dX6_digest_15 (fun r9 u9 hP_19 => ?_)
        obtain ⟨hP_19, hP_19b⟩ := hP_19
        rw [hP_19, hP_19b]
        clear hP_19 hP_19b r9 u9
        have hr1 := ctN_rg (w := i) hw hct h8 hrf
        refine v_i2l (pc := 18) C ⟨by (first | assumption | exact hr1.1 | exact hr1.2 | omega), by (first | assumption | exact hr1.1 | exact hr1.2 | omega)⟩ dX6_digest_18 ?_
        refine v_calllS (pc := 19) C cw_RX6_203 (ct_X6_mixed l L g h (ctN g i) ) ⟨Nat.le_of_ble_eq_true rfl, Nat.le_of_ble_eq_true rfl⟩ rfl (Nat.le_of_ble_eq_true rfl) ⟨Nat.le_of_ble_eq_true rfl, Nat.le_of_ble_eq_true rfl⟩ rfl dX6_digest_19 (fun r9 u9 hP_20 => ?_)
        obtain ⟨hP_20, hP_20b⟩ := hP_20
        rw [hP_20, hP_20b]
        clear hP_20 hP_20b r9 u9
        refine v_lstore_n (pc := 22) C [(1, .long (lI (31 * h + (ctN g i)))), (0, .ref (adr L 0 0 0)), (3, .int (iI i))] rfl (by decide) rfl dX6_digest_22 ?_
        refine v_iinc (pc := 23) C 2 [(3, .int (iI (i + 1))), (1, .long (lI (31 * h + (ctN g i)))), (0, .ref (adr L 0 0 0))] rfl (by decide) rfl dX6_digest_23 ?_
        refine v_goto (pc := 26) C 6 (by decide) dX6_digest_26 ?_
        refine v_lsub [2, 1, 0] rfl ?_
        exact ih6 (31 * h + (ctN g i)) (i + 1) (by omega) (by rw [hs_s _ hi.1, hh]) (by omega)
  refine v_lsub [2, 1, 0] rfl ?_
  exact lb6 _ 3467 0 (by omega) (by rfl) (Nat.lt_succ_self _)
