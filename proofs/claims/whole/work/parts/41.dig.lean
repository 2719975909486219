/-! the reference: its digest -/
def fD (g u : St) (h : Int) : Prop := (∀ f : Nat, f ≠ 14 → u f = g f) ∧ (∀ x, x ≠ 0 → x ≠ 12 → x ≠ 13 → x ≠ 14 → u 14 0 0 x = g 14 0 0 x) ∧ u 14 0 0 0 = 0 ∧ u 14 0 0 14 = h
theorem fD_mix {g u : St} {h v : Int} (hu : fD g u h) : fD g (up u 14 0 0 14 (31 * u 14 0 0 14 + v)) (31 * h + v) := by
  obtain ⟨h1, h2, h3, h4⟩ := hu
  exact ⟨fun f hf => by rw [up_ff hf]; exact h1 f hf, fun x a b c d => by rw [up_i d]; exact h2 x a b c d, by rw [up_i (by decide)]; exact h3, by rw [up_s, h4]⟩
theorem fD_ball {g u : St} {h t : Int} (hu : fD g u h) : fD g (mbM u t) h := by
  obtain ⟨h1, h2, h3, h4⟩ := hu
  have e : ∀ x, x ≠ 12 → x ≠ 13 → mbM u t 14 0 0 x = u 14 0 0 x := fun x a b => by unfold mbM mbT mbG; rw [up_i b, up_i a, up_i b, up_i a]
  exact ⟨fun f hf => by rw [mbM_f _ _ hf]; exact h1 f hf, fun x a b c d => by rw [e x b c]; exact h2 x a b c d, by rw [e 0 (by decide) (by decide)]; exact h3, by rw [e 14 (by decide) (by decide)]; exact h4⟩
theorem fD_pl {g u : St} {h p : Int} (hu : fD g u h) : fD g (up u 14 0 0 14 (mpH u p (u 14 0 0 14))) (mpH g p h) := by
  obtain ⟨h1, h2, h3, h4⟩ := hu
  exact ⟨fun f hf => by rw [up_ff hf]; exact h1 f hf, fun x a b c d => by rw [up_i d]; exact h2 x a b c d, by rw [up_i (by decide)]; exact h3, by rw [up_s, h4, e_mpH (h1 15 (by decide))]⟩
theorem e_mbA {u g : St} (h : u 15 = g 15) (t w : Int) : mbA u t w = mbA g t w := by
  have e12 : mbM u t 14 0 0 12 = mbM g t 14 0 0 12 := by
    have a : ∀ g : St, mbM g t 14 0 0 12 = (bwalk (g 15 0 0 0) (t * g 15 0 0 5).toNat (g 15 0 0 4, g 15 0 0 6)).1 := fun g => by simp [mbM, mbT, mbG, up]
    rw [a, a, h]
  have e13 : mbM u t 14 0 0 13 = mbM g t 14 0 0 13 := by
    have a : ∀ g : St, mbM g t 14 0 0 13 = (bwalk (g 15 0 0 0) (t * g 15 0 0 5).toNat (g 15 0 0 4, g 15 0 0 6)).2 := fun g => by simp [mbM, mbT, mbG, up]
    rw [a, a, h]
  unfold mbA mUn; rw [e12, e13, h]
theorem mbA_rg {g : St} {d t w : Int} (h : wm (g 15 0 0) d) : rg (mbA g t w) := by
  have hb := mbM_in (t := t) h
  have hS := h.1
  have hu : 0 ≤ unf (g 15 0 0 4) 1 (g 15 0 0 6) (t * g 15 0 0 5) (g 15 0 0 0) ∧ unf (g 15 0 0 4) 1 (g 15 0 0 6) (t * g 15 0 0 5) (g 15 0 0 0) ≤ 100 := unf_in hS
  unfold mbA mUn rg; (repeat' split) <;> omega
theorem mEt_rg {g : St} {d r w : Int} (h : wm (g 15 0 0) d) (hd : 0 ≤ d) (hw : 0 ≤ w ∧ w ≤ 5) : rg (mEt g r w) := by
  have hea := eaM_in g r (g 15 0 0 9).toNat
  obtain ⟨mS0, mS1, mS2, mB0, mB1, mB2, mCl, mN, mPl, mEc⟩ := h
  unfold mEt; simp only []
  generalize eaM g r (g 15 0 0 9).toNat = i at *
  split
  · unfold rg; omega
  · have he := mEc i (by omega) (by omega)
    unfold okM at he
    (repeat' split)
    · unfold rg; omega
    · unfold rg; omega
    · unfold rg; omega
    · unfold rg; omega
    · have : w = 0 ∨ w = 1 ∨ w = 2 := by omega
      rcases this with rfl | rfl | rfl <;> (unfold rg; omega)
theorem mQu_in {g : St} {d : Int} (h : wm (g 15 0 0) d) : 0 ≤ mQu g ∧ mQu g ≤ 200000 := by
  obtain ⟨mS0, mS1, mS2, mB0, mB1, mB2, mCl, mN, mPl, mEc⟩ := h
  constructor
  · have h1 := (mxN_le (f := fun i => g 15 0 0 (34 + 5 * i + 3)) (v := mQu g) (n := (g 15 0 0 9).toNat) (b := g 15 0 0 3)).mp (Int.le_refl _)
    omega
  · unfold mQu
    rw [mxN_le]
    refine ⟨by omega, fun i h0 h1 => ?_⟩
    have := mEc i h0 (by omega)
    unfold okM at this; omega
theorem mCt_rg {g : St} {d w : Int} (h : wm (g 15 0 0) d) (hc : ctM g) (h3 : 0 ≤ g 14 0 0 3 ∧ g 14 0 0 3 ≤ 6) : rg (mCt g w) := by
  obtain ⟨mS0, mS1, mS2, mB0, mB1, mB2, mCl, mN, mPl, mEc⟩ := h
  have c := fun x a b => hc x a b
  have c7 := c 7 (by decide) (by decide)
  have c8 := c 8 (by decide) (by decide)
  have s : ∀ w : Int, 1 ≤ w → w ≤ 5 → 0 ≤ sumM g w ∧ sumM g w ≤ 400000000 := fun w a b => by
    have c0 := c (10 + 6 * 0 + w) (by omega) (by omega)
    have c1 := c (10 + 6 * 1 + w) (by omega) (by omega)
    have c2 := c (10 + 6 * 2 + w) (by omega) (by omega)
    have c3 := c (10 + 6 * 3 + w) (by omega) (by omega)
    unfold sumM; omega
  have s3 := s 3 (by decide) (by decide)
  have s4 := s 4 (by decide) (by decide)
  have s5 := s 5 (by decide) (by decide)
  have s1 := s 1 (by decide) (by decide)
  unfold mCt rg; (repeat' split) <;> omega
theorem e_shMM {u g : St} (h : u 15 = g 15) : shMM u = shMM g := by unfold shMM; rw [e_sumM h, e_sumM h, e_sumM h]
theorem shD_nn {a b : Int} (ha : 0 ≤ a) (hab : a ≤ b) (hb2 : b ≤ 1000000000) : FP.Core.val64 (shD a b) ≠ .nan := by
  rcases sh_F ha hab hb2 with h | ⟨c, q, h⟩
  · rw [h, fl_0]; simp
  · rw [h.1]; simp
def dg1 (g : St) : Int := hs (fun i => g 15 0 0 i) 3 (hs (fun w => mCt g w) 12 (3467))
def dg2 (g : St) : Int := meH g (g 15 0 0 9).toNat (mpA g 4 (dg1 g))
def bD (g : St) (i : Int) : Int := mbA g (if i < 3 then 7 else 50) (i % 3)
def dg3 (g : St) : Int := 31 * (31 * (31 * hs (fun i => bD g i) 6 (dg2 g) + (mQu g - g 15 0 0 3)) + mBs g 4) + ((shMM g).toNat : Int)
def dgM (g : St) : Int := hs (fun i => g 19 0 0 i) (g 14 0 0 7).toNat (31 * (31 * (31 * dg3 g + g 18 0 0 0) + g 18 0 0 1) + g 14 0 0 7)

theorem cw_RX7_206 : CW RX7 206 RX7 yX7_mixPlayer cX7_mixPlayer 3 none 1 := ⟨u_35_16, u_35_17, u_35_18, u_1_5, u_35_19, by decide +kernel⟩
theorem cw_RX7_209 : CWs RX7 209 yJxe99ae_doubleToLongBits_ccdee cJxe99ae_doubleToLongBits_ccdee 2 (some .long) 1 := ⟨u_35_20, u_35_21, u_35_22, u_35_23, by decide +kernel⟩
set_option maxHeartbeats 4000000 in
set_option maxRecDepth 100000 in
theorem ct_X7_digest (l : Launch) (L : Lay) (g : St) (d : Int) (hm : wm (g 15 0 0) d) (hd : 0 ≤ d ∧ d ≤ 1) (hcm : ctM g) (h3 : 0 ≤ g 14 0 0 3 ∧ g 14 0 0 3 ≤ 6) (hb : wb g) (hs3 : 0 ≤ sumM g 3 ∧ sumM g 3 ≤ 300000000) (hs4 : 0 ≤ sumM g 4 ∧ sumM g 4 ≤ 300000000) (hs5 : 0 ≤ sumM g 5 ∧ sumM g 5 ≤ 300000000) (hk : ∀ i, 0 ≤ i → i < 2 → g 18 0 0 i = 0 ∨ g 18 0 0 i = 1) : Met l yX7_digest (.code yX7_digest cX7_digest 3 (some .long) :: wsL_law) { frames := 6, cells := 0, slots := 0, locals := 139 } (va_Pc [.ref (adr L 14 0 0)] (HS L g)) (va_Ql (fun (r9 : Int64) (u : St) => ∃ z : Int, r9 = lI z ∧ (fD g u z ∧ z = dgM g)) (fun u t => HS L u t) (Af L)) 0 0 (Af L) := by
  refine ct_mk (by decide +kernel) (Nat.le_of_ble_eq_true rfl) ?_
  intro pp ee ss mm bel mth cx C hr hlk
  show V pp l ee { frames := 6, cells := 0, slots := 0, locals := 139 } ss mm ([.ref (adr L 14 0 0)]).toArray bel mth cx 3 L (HH L g) 0 0 _ 0 [(0, .ref (adr L 14 0 0))] []
  obtain ⟨mS0, mS1, mS2, mB0, mB1, mB2, mCl, mN, mPl, mEc⟩ := id hm
  obtain ⟨hbl, hba, hbf⟩ := id hb
  have hk0 := hk 0 (by decide) (by decide)
  have hk1 := hk 1 (by decide) (by decide)
  refine v_aload_n (pc := 0) C 0 rfl rfl dX7_digest_0 ?_
  refine v_iconst (pc := 1) C dX7_digest_1 ?_
  refine pt_14_0 (pc := 2) C u_8_10 dX7_digest_2 ?_
  refine v_aload_n (pc := 5) C 0 rfl rfl dX7_digest_5 ?_
  refine v_ldc2 (pc := 6) (z := 3467) C (by decide +kernel) u_35_9 dX7_digest_6 ?_
  refine pt_14_14 (pc := 9) C u_35_10 dX7_digest_9 ?_
  refine v_iconst (pc := 12) C dX7_digest_12 ?_
  refine v_istore_n (pc := 13) C [(1, .int (iI 0)), (0, .ref (adr L 14 0 0))] rfl (by decide) rfl dX7_digest_13 ?_
  have lb14 : ∀ (n9 : Nat) (u : St) (i : Int), (0 ≤ i ∧ i ≤ 12) → (fD g u (hs (fun w => mCt g w) i.toNat (3467))) → (12 - i).toNat < n9 → V pp l ee { frames := 6, cells := 0, slots := 0, locals := 139 } ss mm ([.ref (adr L 14 0 0)]).toArray bel mth cx 3 L (HH L u) 0 0 (MQ bel (va_Ql (fun (r9 : Int64) (u : St) => ∃ z : Int, r9 = lI z ∧ (fD g u z ∧ z = dgM g)) (fun u t => HS L u t) (Af L)) ([.ref (adr L 14 0 0)]).toArray ss 0 0 (Af L)) 14 [(0, .ref (adr L 14 0 0)), (1, .int (iI i))] [] := by
    intro n9
    induction n9 with
    | zero => intro u i hi hu hm9; exact absurd hm9 (Nat.not_lt_zero _)
    | succ n9 ih9 =>
      intro u i hi hu hm9
      have h15 := hu.1 15 (by decide)
      have hmu := e_wm h15 hm
      have hcu := e_ctM h15 hcm
      have h143 := hu.2.1 3 (by decide) (by decide) (by decide) (by decide)
      have ih14 := ih9
      refine v_iload_n (pc := 14) C 1 rfl rfl dX7_digest_14 ?_
      refine v_bipush (pc := 15) C rfl dX7_digest_15 ?_
      refine v_icmp_ge (pc := 17) C 36 ⟨by (first | assumption | exact hr1.1 | exact hr1.2 | omega), by (first | assumption | exact hr1.1 | exact hr1.2 | omega)⟩ ⟨by (first | assumption | exact hr1.1 | exact hr1.2 | omega), by (first | assumption | exact hr1.1 | exact hr1.2 | omega)⟩ (by decide) dX7_digest_17 (fun h17 => ?_) (fun h17 => ?_)
      · skip
        refine v_iconst (pc := 36) C dX7_digest_36 ?_
        refine v_istore_n (pc := 37) C [(1, .int (iI 0)), (0, .ref (adr L 14 0 0))] rfl (by decide) rfl dX7_digest_37 ?_
        have lb38 : ∀ (n9 : Nat) (u : St) (i : Int), (0 ≤ i ∧ i ≤ 3) → (fD g u (hs (fun i => g 15 0 0 i) i.toNat (hs (fun w => mCt g w) 12 (3467)))) → (3 - i).toNat < n9 → V pp l ee { frames := 6, cells := 0, slots := 0, locals := 139 } ss mm ([.ref (adr L 14 0 0)]).toArray bel mth cx 3 L (HH L u) 0 0 (MQ bel (va_Ql (fun (r9 : Int64) (u : St) => ∃ z : Int, r9 = lI z ∧ (fD g u z ∧ z = dgM g)) (fun u t => HS L u t) (Af L)) ([.ref (adr L 14 0 0)]).toArray ss 0 0 (Af L)) 38 [(0, .ref (adr L 14 0 0)), (1, .int (iI i))] [] := by
          intro n9
          induction n9 with
          | zero => intro u i hi hu hm9; exact absurd hm9 (Nat.not_lt_zero _)
          | succ n9 ih9 =>
            intro u i hi hu hm9
            have h15 := hu.1 15 (by decide)
            have hmu := e_wm h15 hm
            have hcu := e_ctM h15 hcm
            have h143 := hu.2.1 3 (by decide) (by decide) (by decide) (by decide)
            have ih38 := ih9
            refine v_iload_n (pc := 38) C 1 rfl rfl dX7_digest_38 ?_
            refine v_iconst (pc := 39) C dX7_digest_39 ?_
            refine v_icmp_ge (pc := 40) C 60 ⟨by (first | assumption | exact hr1.1 | exact hr1.2 | omega), by (first | assumption | exact hr1.1 | exact hr1.2 | omega)⟩ ⟨by (first | assumption | exact hr1.1 | exact hr1.2 | omega), by (first | assumption | exact hr1.1 | exact hr1.2 | omega)⟩ (by decide) dX7_digest_40 (fun h40 => ?_) (fun h40 => ?_)
            · skip
              refine v_iconst (pc := 60) C dX7_digest_60 ?_
              refine v_istore_n (pc := 61) C [(1, .int (iI 0)), (0, .ref (adr L 14 0 0))] rfl (by decide) rfl dX7_digest_61 ?_
              have lb62 : ∀ (n9 : Nat) (u : St) (i : Int), (0 ≤ i ∧ i ≤ 4) → (fD g u (mpA g i.toNat (dg1 g))) → (4 - i).toNat < n9 → V pp l ee { frames := 6, cells := 0, slots := 0, locals := 139 } ss mm ([.ref (adr L 14 0 0)]).toArray bel mth cx 3 L (HH L u) 0 0 (MQ bel (va_Ql (fun (r9 : Int64) (u : St) => ∃ z : Int, r9 = lI z ∧ (fD g u z ∧ z = dgM g)) (fun u t => HS L u t) (Af L)) ([.ref (adr L 14 0 0)]).toArray ss 0 0 (Af L)) 62 [(0, .ref (adr L 14 0 0)), (1, .int (iI i))] [] := by
                intro n9
                induction n9 with
                | zero => intro u i hi hu hm9; exact absurd hm9 (Nat.not_lt_zero _)
                | succ n9 ih9 =>
                  intro u i hi hu hm9
                  have h15 := hu.1 15 (by decide)
                  have hmu := e_wm h15 hm
                  have hcu := e_ctM h15 hcm
                  have h143 := hu.2.1 3 (by decide) (by decide) (by decide) (by decide)
                  have ih62 := ih9
                  refine v_iload_n (pc := 62) C 1 rfl rfl dX7_digest_62 ?_
                  refine v_iconst (pc := 63) C dX7_digest_63 ?_
                  refine v_icmp_ge (pc := 64) C 78 ⟨by (first | assumption | exact hr1.1 | exact hr1.2 | omega), by (first | assumption | exact hr1.1 | exact hr1.2 | omega)⟩ ⟨by (first | assumption | exact hr1.1 | exact hr1.2 | omega), by (first | assumption | exact hr1.1 | exact hr1.2 | omega)⟩ (by decide) dX7_digest_64 (fun h64 => ?_) (fun h64 => ?_)
                  · skip
                    refine v_iconst (pc := 78) C dX7_digest_78 ?_
                    refine v_istore_n (pc := 79) C [(1, .int (iI 0)), (0, .ref (adr L 14 0 0))] rfl (by decide) rfl dX7_digest_79 ?_
                    have lb80 : ∀ (n9 : Nat) (u : St) (i : Int), (0 ≤ i ∧ i ≤ g 15 0 0 9) → (fD g u (meH g i.toNat (mpA g 4 (dg1 g)))) → (g 15 0 0 9 - i).toNat < n9 → V pp l ee { frames := 6, cells := 0, slots := 0, locals := 139 } ss mm ([.ref (adr L 14 0 0)]).toArray bel mth cx 3 L (HH L u) 0 0 (MQ bel (va_Ql (fun (r9 : Int64) (u : St) => ∃ z : Int, r9 = lI z ∧ (fD g u z ∧ z = dgM g)) (fun u t => HS L u t) (Af L)) ([.ref (adr L 14 0 0)]).toArray ss 0 0 (Af L)) 80 [(0, .ref (adr L 14 0 0)), (1, .int (iI i))] [] := by
                      intro n9
                      induction n9 with
                      | zero => intro u i hi hu hm9; exact absurd hm9 (Nat.not_lt_zero _)
                      | succ n9 ih9 =>
                        intro u i hi hu hm9
                        have h15 := hu.1 15 (by decide)
                        have hmu := e_wm h15 hm
                        have hcu := e_ctM h15 hcm
                        have h143 := hu.2.1 3 (by decide) (by decide) (by decide) (by decide)
                        have ih80 := ih9
                        refine v_iload_n (pc := 80) C 1 rfl rfl dX7_digest_80 ?_
                        refine v_aload_n (pc := 81) C 0 rfl rfl dX7_digest_81 ?_
                        refine gt_14_1 (pc := 82) C u_4_4 dX7_digest_82 ?_
                        refine v_bipush (pc := 85) C rfl dX7_digest_85 ?_
                        refine al_15 (pc := 87) C ⟨by (first | assumption | exact hr1.1 | exact hr1.2 | omega), by (first | assumption | exact hr1.1 | exact hr1.2 | omega)⟩ dX7_digest_87 (g 15 0 0 9) (by rw [h15]) ?_
                        refine v_icmp_ge (pc := 88) C 122 ⟨by (first | assumption | exact hr1.1 | exact hr1.2 | omega), by (first | assumption | exact hr1.1 | exact hr1.2 | omega)⟩ ⟨by (first | assumption | exact hr1.1 | exact hr1.2 | omega), by (first | assumption | exact hr1.1 | exact hr1.2 | omega)⟩ (by decide) dX7_digest_88 (fun h88 => ?_) (fun h88 => ?_)
                        · skip
                          refine v_iconst (pc := 122) C dX7_digest_122 ?_
                          refine v_istore_n (pc := 123) C [(1, .int (iI 0)), (0, .ref (adr L 14 0 0))] rfl (by decide) rfl dX7_digest_123 ?_
                          have lb124 : ∀ (n9 : Nat) (u : St) (i : Int), (0 ≤ i ∧ i ≤ 6) → (fD g u (hs (fun i => bD g i) i.toNat (dg2 g))) → (6 - i).toNat < n9 → V pp l ee { frames := 6, cells := 0, slots := 0, locals := 139 } ss mm ([.ref (adr L 14 0 0)]).toArray bel mth cx 3 L (HH L u) 0 0 (MQ bel (va_Ql (fun (r9 : Int64) (u : St) => ∃ z : Int, r9 = lI z ∧ (fD g u z ∧ z = dgM g)) (fun u t => HS L u t) (Af L)) ([.ref (adr L 14 0 0)]).toArray ss 0 0 (Af L)) 124 [(0, .ref (adr L 14 0 0)), (1, .int (iI i))] [] := by
                            intro n9
                            induction n9 with
                            | zero => intro u i hi hu hm9; exact absurd hm9 (Nat.not_lt_zero _)
                            | succ n9 ih9 =>
                              intro u i hi hu hm9
                              have h15 := hu.1 15 (by decide)
                              have hmu := e_wm h15 hm
                              have hcu := e_ctM h15 hcm
                              have h143 := hu.2.1 3 (by decide) (by decide) (by decide) (by decide)
                              have ih124 := ih9
                              refine v_iload_n (pc := 124) C 1 rfl rfl dX7_digest_124 ?_
                              refine v_bipush (pc := 125) C rfl dX7_digest_125 ?_
                              refine v_icmp_ge (pc := 127) C 160 ⟨by (first | assumption | exact hr1.1 | exact hr1.2 | omega), by (first | assumption | exact hr1.1 | exact hr1.2 | omega)⟩ ⟨by (first | assumption | exact hr1.1 | exact hr1.2 | omega), by (first | assumption | exact hr1.1 | exact hr1.2 | omega)⟩ (by decide) dX7_digest_127 (fun h127 => ?_) (fun h127 => ?_)
                              · skip
                                have lb160 : ∀ (u : St), (fD g u (hs (fun i => bD g i) 6 (dg2 g))) → V pp l ee { frames := 6, cells := 0, slots := 0, locals := 139 } ss mm ([.ref (adr L 14 0 0)]).toArray bel mth cx 3 L (HH L u) 0 0 (MQ bel (va_Ql (fun (r9 : Int64) (u : St) => ∃ z : Int, r9 = lI z ∧ (fD g u z ∧ z = dgM g)) (fun u t => HS L u t) (Af L)) ([.ref (adr L 14 0 0)]).toArray ss 0 0 (Af L)) 160 [(0, .ref (adr L 14 0 0))] [] := by
                                  intro u hu
                                  have h15 := hu.1 15 (by decide)
                                  have hmu := e_wm h15 hm
                                  have hcu := e_ctM h15 hcm
                                  have h143 := hu.2.1 3 (by decide) (by decide) (by decide) (by decide)
                                  refine v_aload_n (pc := 160) C 0 rfl rfl dX7_digest_160 ?_
                                  refine v_aload_n (pc := 161) C 0 rfl rfl dX7_digest_161 ?_
                                  refine v_calliV (pc := 162) C cw_RX7_184 rcv_14 (ct_X7_tellsQuiet l L u d (by first | assumption | exact hr1.1 | exact hr1.2 | omega) (by first | assumption | exact hr1.1 | exact hr1.2 | omega)) ⟨Nat.le_of_ble_eq_true rfl, Nat.le_of_ble_eq_true rfl⟩ rfl (Nat.le_of_ble_eq_true rfl) ⟨Nat.le_of_ble_eq_true rfl, Nat.le_of_ble_eq_true rfl⟩ rfl dX7_digest_162 (fun r9 u9 hP_1 => ?_)
                                  obtain ⟨hP_1, hP_1b⟩ := hP_1
                                  rw [hP_1, hP_1b]
                                  clear hP_1 hP_1b r9 u9
                                  refine v_topi (b := mQu g - g 15 0 0 3) C (by rw [e_mQu h15, h15]) ?_
                                  have hqi := mQu_in hm
                                  refine v_i2l (pc := 165) C ⟨by (first | assumption | exact hr1.1 | exact hr1.2 | omega), by (first | assumption | exact hr1.1 | exact hr1.2 | omega)⟩ dX7_digest_165 ?_
                                  refine v_callvV (pc := 166) C cw_RX7_200 rcv_14 (ct_X7_mix l L u (mQu g - g 15 0 0 3) ) ⟨Nat.le_of_ble_eq_true rfl, Nat.le_of_ble_eq_true rfl⟩ rfl (Nat.le_of_ble_eq_true rfl) ⟨Nat.le_of_ble_eq_true rfl, Nat.le_of_ble_eq_true rfl⟩ rfl dX7_digest_166 (fun u9 hP_2 => ?_)
                                  rw [hP_2]
                                  clear hP_2 u9
                                  have lb169 : ∀ (u : St), (fD g u (31 * (hs (fun i => bD g i) 6 (dg2 g)) + (mQu g - g 15 0 0 3))) → V pp l ee { frames := 6, cells := 0, slots := 0, locals := 139 } ss mm ([.ref (adr L 14 0 0)]).toArray bel mth cx 3 L (HH L u) 0 0 (MQ bel (va_Ql (fun (r9 : Int64) (u : St) => ∃ z : Int, r9 = lI z ∧ (fD g u z ∧ z = dgM g)) (fun u t => HS L u t) (Af L)) ([.ref (adr L 14 0 0)]).toArray ss 0 0 (Af L)) 169 [(0, .ref (adr L 14 0 0))] [] := by
                                    intro u hu
                                    have h15 := hu.1 15 (by decide)
                                    have hmu := e_wm h15 hm
                                    have hcu := e_ctM h15 hcm
                                    have h143 := hu.2.1 3 (by decide) (by decide) (by decide) (by decide)
                                    refine v_aload_n (pc := 169) C 0 rfl rfl dX7_digest_169 ?_
                                    refine v_aload_n (pc := 170) C 0 rfl rfl dX7_digest_170 ?_
                                    refine v_calliV (pc := 171) C cw_RX7_187 rcv_14 (ct_X7_tellsBest l L u (by first | assumption | exact hr1.1 | exact hr1.2 | omega)) ⟨Nat.le_of_ble_eq_true rfl, Nat.le_of_ble_eq_true rfl⟩ rfl (Nat.le_of_ble_eq_true rfl) ⟨Nat.le_of_ble_eq_true rfl, Nat.le_of_ble_eq_true rfl⟩ rfl dX7_digest_171 (fun r9 u9 hP_3 => ?_)
                                    obtain ⟨hP_3, hP_3b⟩ := hP_3
                                    rw [hP_3, hP_3b]
                                    clear hP_3 hP_3b r9 u9
                                    refine v_topi (b := mBs g 4) C (by rw [e_mBs h15]) ?_
                                    have hbs := mBs_in g 4
                                    refine v_i2l (pc := 174) C ⟨by (first | assumption | exact hr1.1 | exact hr1.2 | omega), by (first | assumption | exact hr1.1 | exact hr1.2 | omega)⟩ dX7_digest_174 ?_
                                    refine v_callvV (pc := 175) C cw_RX7_200 rcv_14 (ct_X7_mix l L u (mBs g 4) ) ⟨Nat.le_of_ble_eq_true rfl, Nat.le_of_ble_eq_true rfl⟩ rfl (Nat.le_of_ble_eq_true rfl) ⟨Nat.le_of_ble_eq_true rfl, Nat.le_of_ble_eq_true rfl⟩ rfl dX7_digest_175 (fun u9 hP_4 => ?_)
                                    rw [hP_4]
                                    clear hP_4 u9
                                    have lb178 : ∀ (u : St), (fD g u (31 * (31 * (hs (fun i => bD g i) 6 (dg2 g)) + (mQu g - g 15 0 0 3)) + mBs g 4)) → V pp l ee { frames := 6, cells := 0, slots := 0, locals := 139 } ss mm ([.ref (adr L 14 0 0)]).toArray bel mth cx 3 L (HH L u) 0 0 (MQ bel (va_Ql (fun (r9 : Int64) (u : St) => ∃ z : Int, r9 = lI z ∧ (fD g u z ∧ z = dgM g)) (fun u t => HS L u t) (Af L)) ([.ref (adr L 14 0 0)]).toArray ss 0 0 (Af L)) 178 [(0, .ref (adr L 14 0 0))] [] := by
                                      intro u hu
                                      have h15 := hu.1 15 (by decide)
                                      have hmu := e_wm h15 hm
                                      have hcu := e_ctM h15 hcm
                                      have h143 := hu.2.1 3 (by decide) (by decide) (by decide) (by decide)
                                      refine v_aload_n (pc := 178) C 0 rfl rfl dX7_digest_178 ?_
                                      refine v_aload_n (pc := 179) C 0 rfl rfl dX7_digest_179 ?_
                                      refine v_calldV (pc := 180) C cw_RX7_190 rcv_14 (ct_X7_share l L u (by rw [e_sumM h15]; exact hs3) (by rw [e_sumM h15]; exact hs4) (by rw [e_sumM h15]; exact hs5)) ⟨Nat.le_of_ble_eq_true rfl, Nat.le_of_ble_eq_true rfl⟩ rfl (Nat.le_of_ble_eq_true rfl) ⟨Nat.le_of_ble_eq_true rfl, Nat.le_of_ble_eq_true rfl⟩ rfl dX7_digest_180 (fun r9 u9 hP_5 => ?_)
                                      obtain ⟨hP_5, hP_5b⟩ := hP_5
                                      rw [hP_5, hP_5b]
                                      clear hP_5 hP_5b r9 u9
                                      refine v_calllS (pc := 183) C cw_RX7_209 (ct_Jxe99ae_doubleToLongBits_ccdee l L u (shMM u) (by rw [e_shMM h15]; exact shD_nn (by omega) (by omega) (by omega))) ⟨Nat.le_of_ble_eq_true rfl, Nat.le_of_ble_eq_true rfl⟩ rfl (Nat.le_of_ble_eq_true rfl) ⟨Nat.le_of_ble_eq_true rfl, Nat.le_of_ble_eq_true rfl⟩ rfl dX7_digest_183 (fun r9 u9 hP_6 => ?_)
                                      obtain ⟨hP_6, hP_6b⟩ := hP_6
                                      rw [hP_6, hP_6b]
                                      clear hP_6 hP_6b r9 u9
                                      refine v_topl (b := ((shMM g).toNat : Int)) C (by rw [e_shMM h15]) ?_
                                      refine v_callvV (pc := 186) C cw_RX7_200 rcv_14 (ct_X7_mix l L u ((shMM g).toNat : Int) ) ⟨Nat.le_of_ble_eq_true rfl, Nat.le_of_ble_eq_true rfl⟩ rfl (Nat.le_of_ble_eq_true rfl) ⟨Nat.le_of_ble_eq_true rfl, Nat.le_of_ble_eq_true rfl⟩ rfl dX7_digest_186 (fun u9 hP_7 => ?_)
                                      rw [hP_7]
                                      clear hP_7 u9
                                      have lb189 : ∀ (u : St), (fD g u (dg3 g)) → V pp l ee { frames := 6, cells := 0, slots := 0, locals := 139 } ss mm ([.ref (adr L 14 0 0)]).toArray bel mth cx 3 L (HH L u) 0 0 (MQ bel (va_Ql (fun (r9 : Int64) (u : St) => ∃ z : Int, r9 = lI z ∧ (fD g u z ∧ z = dgM g)) (fun u t => HS L u t) (Af L)) ([.ref (adr L 14 0 0)]).toArray ss 0 0 (Af L)) 189 [(0, .ref (adr L 14 0 0))] [] := by
                                        intro u hu
                                        have h15 := hu.1 15 (by decide)
                                        have hmu := e_wm h15 hm
                                        have hcu := e_ctM h15 hcm
                                        have h143 := hu.2.1 3 (by decide) (by decide) (by decide) (by decide)
                                        refine v_aload_n (pc := 189) C 0 rfl rfl dX7_digest_189 ?_
                                        refine v_aload_n (pc := 190) C 0 rfl rfl dX7_digest_190 ?_
                                        refine gt_14_5 (pc := 191) C u_4_7 dX7_digest_191 ?_
                                        refine v_iconst (pc := 194) C dX7_digest_194 ?_
                                        refine al_18 (pc := 195) C ⟨by (first | assumption | exact hr1.1 | exact hr1.2 | omega), by (first | assumption | exact hr1.1 | exact hr1.2 | omega)⟩ dX7_digest_195 (g 18 0 0 0) (by rw [hu.1 18 (by decide)]) ?_
                                        refine v_i2l (pc := 196) C ⟨by (first | assumption | exact hr1.1 | exact hr1.2 | omega), by (first | assumption | exact hr1.1 | exact hr1.2 | omega)⟩ dX7_digest_196 ?_
                                        refine v_callvV (pc := 197) C cw_RX7_200 rcv_14 (ct_X7_mix l L u (g 18 0 0 0) ) ⟨Nat.le_of_ble_eq_true rfl, Nat.le_of_ble_eq_true rfl⟩ rfl (Nat.le_of_ble_eq_true rfl) ⟨Nat.le_of_ble_eq_true rfl, Nat.le_of_ble_eq_true rfl⟩ rfl dX7_digest_197 (fun u9 hP_8 => ?_)
                                        rw [hP_8]
                                        clear hP_8 u9
                                        have lb200 : ∀ (u : St), (fD g u (31 * dg3 g + g 18 0 0 0)) → V pp l ee { frames := 6, cells := 0, slots := 0, locals := 139 } ss mm ([.ref (adr L 14 0 0)]).toArray bel mth cx 3 L (HH L u) 0 0 (MQ bel (va_Ql (fun (r9 : Int64) (u : St) => ∃ z : Int, r9 = lI z ∧ (fD g u z ∧ z = dgM g)) (fun u t => HS L u t) (Af L)) ([.ref (adr L 14 0 0)]).toArray ss 0 0 (Af L)) 200 [(0, .ref (adr L 14 0 0))] [] := by
                                          intro u hu
                                          have h15 := hu.1 15 (by decide)
                                          have hmu := e_wm h15 hm
                                          have hcu := e_ctM h15 hcm
                                          have h143 := hu.2.1 3 (by decide) (by decide) (by decide) (by decide)
                                          refine v_aload_n (pc := 200) C 0 rfl rfl dX7_digest_200 ?_
                                          refine v_aload_n (pc := 201) C 0 rfl rfl dX7_digest_201 ?_
                                          refine gt_14_5 (pc := 202) C u_4_7 dX7_digest_202 ?_
                                          refine v_iconst (pc := 205) C dX7_digest_205 ?_
                                          refine al_18 (pc := 206) C ⟨by (first | assumption | exact hr1.1 | exact hr1.2 | omega), by (first | assumption | exact hr1.1 | exact hr1.2 | omega)⟩ dX7_digest_206 (g 18 0 0 1) (by rw [hu.1 18 (by decide)]) ?_
                                          refine v_i2l (pc := 207) C ⟨by (first | assumption | exact hr1.1 | exact hr1.2 | omega), by (first | assumption | exact hr1.1 | exact hr1.2 | omega)⟩ dX7_digest_207 ?_
                                          refine v_callvV (pc := 208) C cw_RX7_200 rcv_14 (ct_X7_mix l L u (g 18 0 0 1) ) ⟨Nat.le_of_ble_eq_true rfl, Nat.le_of_ble_eq_true rfl⟩ rfl (Nat.le_of_ble_eq_true rfl) ⟨Nat.le_of_ble_eq_true rfl, Nat.le_of_ble_eq_true rfl⟩ rfl dX7_digest_208 (fun u9 hP_9 => ?_)
                                          rw [hP_9]
                                          clear hP_9 u9
                                          have lb211 : ∀ (u : St), (fD g u (31 * (31 * dg3 g + g 18 0 0 0) + g 18 0 0 1)) → V pp l ee { frames := 6, cells := 0, slots := 0, locals := 139 } ss mm ([.ref (adr L 14 0 0)]).toArray bel mth cx 3 L (HH L u) 0 0 (MQ bel (va_Ql (fun (r9 : Int64) (u : St) => ∃ z : Int, r9 = lI z ∧ (fD g u z ∧ z = dgM g)) (fun u t => HS L u t) (Af L)) ([.ref (adr L 14 0 0)]).toArray ss 0 0 (Af L)) 211 [(0, .ref (adr L 14 0 0))] [] := by
                                            intro u hu
                                            have h15 := hu.1 15 (by decide)
                                            have hmu := e_wm h15 hm
                                            have hcu := e_ctM h15 hcm
                                            have h143 := hu.2.1 3 (by decide) (by decide) (by decide) (by decide)
                                            have h7 := hu.2.1 7 (by decide) (by decide) (by decide) (by decide)
                                            refine v_aload_n (pc := 211) C 0 rfl rfl dX7_digest_211 ?_
                                            refine v_aload_n (pc := 212) C 0 rfl rfl dX7_digest_212 ?_
                                            refine gt_14_7 (pc := 213) C u_17_16 dX7_digest_213 (g 14 0 0 7) (h7) ?_
                                            refine v_i2l (pc := 216) C ⟨by (first | assumption | exact hr1.1 | exact hr1.2 | omega), by (first | assumption | exact hr1.1 | exact hr1.2 | omega)⟩ dX7_digest_216 ?_
                                            refine v_callvV (pc := 217) C cw_RX7_200 rcv_14 (ct_X7_mix l L u (g 14 0 0 7) ) ⟨Nat.le_of_ble_eq_true rfl, Nat.le_of_ble_eq_true rfl⟩ rfl (Nat.le_of_ble_eq_true rfl) ⟨Nat.le_of_ble_eq_true rfl, Nat.le_of_ble_eq_true rfl⟩ rfl dX7_digest_217 (fun u9 hP_10 => ?_)
                                            rw [hP_10]
                                            clear hP_10 u9
                                            have lb220 : ∀ (u : St), (fD g u (31 * (31 * (31 * dg3 g + g 18 0 0 0) + g 18 0 0 1) + g 14 0 0 7)) → V pp l ee { frames := 6, cells := 0, slots := 0, locals := 139 } ss mm ([.ref (adr L 14 0 0)]).toArray bel mth cx 3 L (HH L u) 0 0 (MQ bel (va_Ql (fun (r9 : Int64) (u : St) => ∃ z : Int, r9 = lI z ∧ (fD g u z ∧ z = dgM g)) (fun u t => HS L u t) (Af L)) ([.ref (adr L 14 0 0)]).toArray ss 0 0 (Af L)) 220 [(0, .ref (adr L 14 0 0))] [] := by
                                              intro u hu
                                              have h15 := hu.1 15 (by decide)
                                              have hmu := e_wm h15 hm
                                              have hcu := e_ctM h15 hcm
                                              have h143 := hu.2.1 3 (by decide) (by decide) (by decide) (by decide)
                                              refine v_iconst (pc := 220) C dX7_digest_220 ?_
                                              refine v_istore_n (pc := 221) C [(1, .int (iI 0)), (0, .ref (adr L 14 0 0))] rfl (by decide) rfl dX7_digest_221 ?_
                                              have lb222 : ∀ (n9 : Nat) (u : St) (i : Int), (0 ≤ i ∧ i ≤ g 14 0 0 7) → (fD g u (hs (fun i => g 19 0 0 i) i.toNat (31 * (31 * (31 * dg3 g + g 18 0 0 0) + g 18 0 0 1) + g 14 0 0 7))) → (g 14 0 0 7 - i).toNat < n9 → V pp l ee { frames := 6, cells := 0, slots := 0, locals := 139 } ss mm ([.ref (adr L 14 0 0)]).toArray bel mth cx 3 L (HH L u) 0 0 (MQ bel (va_Ql (fun (r9 : Int64) (u : St) => ∃ z : Int, r9 = lI z ∧ (fD g u z ∧ z = dgM g)) (fun u t => HS L u t) (Af L)) ([.ref (adr L 14 0 0)]).toArray ss 0 0 (Af L)) 222 [(0, .ref (adr L 14 0 0)), (1, .int (iI i))] [] := by
                                                intro n9
                                                induction n9 with
                                                | zero => intro u i hi hu hm9; exact absurd hm9 (Nat.not_lt_zero _)
                                                | succ n9 ih9 =>
                                                  intro u i hi hu hm9
                                                  have h15 := hu.1 15 (by decide)
                                                  have hmu := e_wm h15 hm
                                                  have hcu := e_ctM h15 hcm
                                                  have h143 := hu.2.1 3 (by decide) (by decide) (by decide) (by decide)
                                                  have h7 := hu.2.1 7 (by decide) (by decide) (by decide) (by decide)
                                                  have h19 := hu.1 19 (by decide)
                                                  have ih222 := ih9
                                                  refine v_iload_n (pc := 222) C 1 rfl rfl dX7_digest_222 ?_
                                                  refine v_aload_n (pc := 223) C 0 rfl rfl dX7_digest_223 ?_
                                                  refine gt_14_7 (pc := 224) C u_17_16 dX7_digest_224 (g 14 0 0 7) (h7) ?_
                                                  refine v_icmp_ge (pc := 227) C 247 ⟨by (first | assumption | exact hr1.1 | exact hr1.2 | omega), by (first | assumption | exact hr1.1 | exact hr1.2 | omega)⟩ ⟨by (first | assumption | exact hr1.1 | exact hr1.2 | omega), by (first | assumption | exact hr1.1 | exact hr1.2 | omega)⟩ (by decide) dX7_digest_227 (fun h227 => ?_) (fun h227 => ?_)
                                                  · skip
                                                    have hfin : fD g u (dgM g) := by (rw [show i = g 14 0 0 7 by omega] at hu; exact hu)
                                                    refine v_aload_n (pc := 247) C 0 rfl rfl dX7_digest_247 ?_
                                                    refine gt_14_14 (pc := 248) C u_35_10 dX7_digest_248 (dgM g) (hfin.2.2.2) ?_
                                                    exact v_lret (pc := 251) C hr hlk (⟨_, rfl, hfin, rfl⟩) dX7_digest_251
                                                  · skip
                                                    refine v_aload_n (pc := 230) C 0 rfl rfl dX7_digest_230 ?_
                                                    refine v_aload_n (pc := 231) C 0 rfl rfl dX7_digest_231 ?_
                                                    refine gt_14_6 (pc := 232) C u_4_8 dX7_digest_232 ?_
                                                    refine v_iload_n (pc := 235) C 1 rfl rfl dX7_digest_235 ?_
                                                    refine al_19 (pc := 236) C ⟨by (first | assumption | exact hr1.1 | exact hr1.2 | omega), by (first | assumption | exact hr1.1 | exact hr1.2 | omega)⟩ dX7_digest_236 (g 19 0 0 i) (by rw [h19]) ?_
                                                    have hr1 := hbf i (by omega) (by omega)
                                                    refine v_i2l (pc := 237) C ⟨by (first | assumption | exact hr1.1 | exact hr1.2 | omega), by (first | assumption | exact hr1.1 | exact hr1.2 | omega)⟩ dX7_digest_237 ?_
                                                    refine v_callvV (pc := 238) C cw_RX7_200 rcv_14 (ct_X7_mix l L u (g 19 0 0 i) ) ⟨Nat.le_of_ble_eq_true rfl, Nat.le_of_ble_eq_true rfl⟩ rfl (Nat.le_of_ble_eq_true rfl) ⟨Nat.le_of_ble_eq_true rfl, Nat.le_of_ble_eq_true rfl⟩ rfl dX7_digest_238 (fun u9 hP_11 => ?_)
                                                    rw [hP_11]
                                                    clear hP_11 u9
                                                    refine v_iinc (pc := 241) C 1 [(1, .int (iI (i + 1))), (0, .ref (adr L 14 0 0))] rfl (by decide) rfl dX7_digest_241 ?_
                                                    refine v_goto (pc := 244) C 222 (by decide) dX7_digest_244 ?_
                                                    refine v_lsub [1, 0] rfl ?_
                                                    exact ih222 (up u 14 0 0 14 (31 * u 14 0 0 14 + (g 19 0 0 i))) (i + 1) (by omega) (by rw [hs_s _ hi.1]; exact fD_mix hu) (by omega)
                                              refine v_lsub [1, 0] rfl ?_
                                              exact lb222 _ u 0 (by omega) (by exact hu) (Nat.lt_succ_self _)
                                            exact lb220 (up u 14 0 0 14 (31 * u 14 0 0 14 + (g 14 0 0 7))) (by exact fD_mix hu)
                                          exact lb211 (up u 14 0 0 14 (31 * u 14 0 0 14 + (g 18 0 0 1))) (by exact fD_mix hu)
                                        exact lb200 (up u 14 0 0 14 (31 * u 14 0 0 14 + (g 18 0 0 0))) (by exact fD_mix hu)
                                      exact lb189 (up u 14 0 0 14 (31 * u 14 0 0 14 + ((shMM g).toNat : Int))) (by exact fD_mix hu)
                                    exact lb178 (up u 14 0 0 14 (31 * u 14 0 0 14 + (mBs g 4))) (by exact fD_mix hu)
                                  exact lb169 (up u 14 0 0 14 (31 * u 14 0 0 14 + (mQu g - g 15 0 0 3))) (by exact fD_mix hu)
                                refine v_lsub [0] rfl ?_
                                exact lb160 u (by rw [show i = 6 by omega] at hu; exact hu)
                              · skip
                                refine v_aload_n (pc := 130) C 0 rfl rfl dX7_digest_130 ?_
                                refine v_aload_n (pc := 131) C 0 rfl rfl dX7_digest_131 ?_
                                refine v_iload_n (pc := 132) C 1 rfl rfl dX7_digest_132 ?_
                                refine v_iconst (pc := 133) C dX7_digest_133 ?_
                                refine v_icmp_ge (pc := 134) C 142 ⟨by (first | assumption | exact hr1.1 | exact hr1.2 | omega), by (first | assumption | exact hr1.1 | exact hr1.2 | omega)⟩ ⟨by (first | assumption | exact hr1.1 | exact hr1.2 | omega), by (first | assumption | exact hr1.1 | exact hr1.2 | omega)⟩ (by decide) dX7_digest_134 (fun h134 => ?_) (fun h134 => ?_)
                                · skip
                                  refine v_bipush (pc := 142) C rfl dX7_digest_142 ?_
                                  refine v_iload_n (pc := 144) C 1 rfl rfl dX7_digest_144 ?_
                                  refine v_iconst (pc := 145) C dX7_digest_145 ?_
                                  refine v_irem (pc := 146) C (⟨⟨by (first | assumption | exact hr1.1 | exact hr1.2 | omega), by (first | assumption | exact hr1.1 | exact hr1.2 | omega)⟩, ⟨by (first | assumption | exact hr1.1 | exact hr1.2 | omega), by (first | assumption | exact hr1.1 | exact hr1.2 | omega)⟩, by (first | assumption | exact hr1.1 | exact hr1.2 | omega), by (first | assumption | exact hr1.1 | exact hr1.2 | omega)⟩) dX7_digest_146 ?_
                                  refine v_calliV (pc := 147) C cw_RX7_169 rcv_14 (ct_X7_tellsBall l L u d 50 (i % 3) (by first | assumption | exact hr1.1 | exact hr1.2 | omega) (by first | assumption | exact hr1.1 | exact hr1.2 | omega) (by first | assumption | exact hr1.1 | exact hr1.2 | omega) (by first | assumption | exact hr1.1 | exact hr1.2 | omega)) ⟨Nat.le_of_ble_eq_true rfl, Nat.le_of_ble_eq_true rfl⟩ rfl (Nat.le_of_ble_eq_true rfl) ⟨Nat.le_of_ble_eq_true rfl, Nat.le_of_ble_eq_true rfl⟩ rfl dX7_digest_147 (fun r9 u9 hP_12 => ?_)
                                  obtain ⟨hP_12, hP_12b⟩ := hP_12
                                  rw [hP_12, hP_12b]
                                  clear hP_12 hP_12b r9 u9
                                  refine v_topi (b := bD g i) C (by rw [e_mbA h15]; unfold bD; first | rw [if_pos (by omega)] | rw [if_neg (by omega)]) ?_
                                  have hr1 : rg (bD g i) := mbA_rg hm
                                  refine v_i2l (pc := 150) C ⟨by (first | assumption | exact hr1.1 | exact hr1.2 | omega), by (first | assumption | exact hr1.1 | exact hr1.2 | omega)⟩ dX7_digest_150 ?_
                                  refine v_callvV (pc := 151) C cw_RX7_200 rcv_14 (ct_X7_mix l L (mbM u 50) (bD g i) ) ⟨Nat.le_of_ble_eq_true rfl, Nat.le_of_ble_eq_true rfl⟩ rfl (Nat.le_of_ble_eq_true rfl) ⟨Nat.le_of_ble_eq_true rfl, Nat.le_of_ble_eq_true rfl⟩ rfl dX7_digest_151 (fun u9 hP_13 => ?_)
                                  rw [hP_13]
                                  clear hP_13 u9
                                  refine v_iinc (pc := 154) C 1 [(1, .int (iI (i + 1))), (0, .ref (adr L 14 0 0))] rfl (by decide) rfl dX7_digest_154 ?_
                                  refine v_goto (pc := 157) C 124 (by decide) dX7_digest_157 ?_
                                  refine v_lsub [1, 0] rfl ?_
                                  exact ih124 (up (mbM u 50) 14 0 0 14 (31 * (mbM u 50) 14 0 0 14 + (bD g i))) (i + 1) (by omega) (by rw [hs_s _ hi.1]; exact fD_mix (fD_ball hu)) (by omega)
                                · skip
                                  refine v_bipush (pc := 137) C rfl dX7_digest_137 ?_
                                  refine v_goto (pc := 139) C 144 (by decide) dX7_digest_139 ?_
                                  refine v_iload_n (pc := 144) C 1 rfl rfl dX7_digest_144 ?_
                                  refine v_iconst (pc := 145) C dX7_digest_145 ?_
                                  refine v_irem (pc := 146) C (⟨⟨by (first | assumption | exact hr1.1 | exact hr1.2 | omega), by (first | assumption | exact hr1.1 | exact hr1.2 | omega)⟩, ⟨by (first | assumption | exact hr1.1 | exact hr1.2 | omega), by (first | assumption | exact hr1.1 | exact hr1.2 | omega)⟩, by (first | assumption | exact hr1.1 | exact hr1.2 | omega), by (first | assumption | exact hr1.1 | exact hr1.2 | omega)⟩) dX7_digest_146 ?_
                                  refine v_calliV (pc := 147) C cw_RX7_169 rcv_14 (ct_X7_tellsBall l L u d 7 (i % 3) (by first | assumption | exact hr1.1 | exact hr1.2 | omega) (by first | assumption | exact hr1.1 | exact hr1.2 | omega) (by first | assumption | exact hr1.1 | exact hr1.2 | omega) (by first | assumption | exact hr1.1 | exact hr1.2 | omega)) ⟨Nat.le_of_ble_eq_true rfl, Nat.le_of_ble_eq_true rfl⟩ rfl (Nat.le_of_ble_eq_true rfl) ⟨Nat.le_of_ble_eq_true rfl, Nat.le_of_ble_eq_true rfl⟩ rfl dX7_digest_147 (fun r9 u9 hP_14 => ?_)
                                  obtain ⟨hP_14, hP_14b⟩ := hP_14
                                  rw [hP_14, hP_14b]
                                  clear hP_14 hP_14b r9 u9
                                  refine v_topi (b := bD g i) C (by rw [e_mbA h15]; unfold bD; first | rw [if_pos (by omega)] | rw [if_neg (by omega)]) ?_
                                  have hr1 : rg (bD g i) := mbA_rg hm
                                  refine v_i2l (pc := 150) C ⟨by (first | assumption | exact hr1.1 | exact hr1.2 | omega), by (first | assumption | exact hr1.1 | exact hr1.2 | omega)⟩ dX7_digest_150 ?_
                                  refine v_callvV (pc := 151) C cw_RX7_200 rcv_14 (ct_X7_mix l L (mbM u 7) (bD g i) ) ⟨Nat.le_of_ble_eq_true rfl, Nat.le_of_ble_eq_true rfl⟩ rfl (Nat.le_of_ble_eq_true rfl) ⟨Nat.le_of_ble_eq_true rfl, Nat.le_of_ble_eq_true rfl⟩ rfl dX7_digest_151 (fun u9 hP_15 => ?_)
                                  rw [hP_15]
                                  clear hP_15 u9
                                  refine v_iinc (pc := 154) C 1 [(1, .int (iI (i + 1))), (0, .ref (adr L 14 0 0))] rfl (by decide) rfl dX7_digest_154 ?_
                                  refine v_goto (pc := 157) C 124 (by decide) dX7_digest_157 ?_
                                  refine v_lsub [1, 0] rfl ?_
                                  exact ih124 (up (mbM u 7) 14 0 0 14 (31 * (mbM u 7) 14 0 0 14 + (bD g i))) (i + 1) (by omega) (by rw [hs_s _ hi.1]; exact fD_mix (fD_ball hu)) (by omega)
                          refine v_lsub [1, 0] rfl ?_
                          exact lb124 _ u 0 (by omega) (by rw [show i = g 15 0 0 9 by omega] at hu; exact hu) (Nat.lt_succ_self _)
                        · skip
                          refine v_iconst (pc := 91) C dX7_digest_91 ?_
                          refine v_istore_n (pc := 92) C [(2, .int (iI 0)), (0, .ref (adr L 14 0 0)), (1, .int (iI i))] rfl (by decide) rfl dX7_digest_92 ?_
                          have lb93 : ∀ (n9 : Nat) (u : St) (j : Int), (0 ≤ j ∧ j ≤ 6) → (fD g u (hs (fun w => mEt g i w) j.toNat (meH g i.toNat (mpA g 4 (dg1 g))))) → (6 - j).toNat < n9 → V pp l ee { frames := 6, cells := 0, slots := 0, locals := 139 } ss mm ([.ref (adr L 14 0 0)]).toArray bel mth cx 3 L (HH L u) 0 0 (MQ bel (va_Ql (fun (r9 : Int64) (u : St) => ∃ z : Int, r9 = lI z ∧ (fD g u z ∧ z = dgM g)) (fun u t => HS L u t) (Af L)) ([.ref (adr L 14 0 0)]).toArray ss 0 0 (Af L)) 93 [(0, .ref (adr L 14 0 0)), (1, .int (iI i)), (2, .int (iI j))] [] := by
                            intro n9
                            induction n9 with
                            | zero => intro u j hj hu hm9; exact absurd hm9 (Nat.not_lt_zero _)
                            | succ n9 ih9 =>
                              intro u j hj hu hm9
                              have h15 := hu.1 15 (by decide)
                              have hmu := e_wm h15 hm
                              have hcu := e_ctM h15 hcm
                              have h143 := hu.2.1 3 (by decide) (by decide) (by decide) (by decide)
                              have ih93 := ih9
                              refine v_iload_n (pc := 93) C 2 rfl rfl dX7_digest_93 ?_
                              refine v_bipush (pc := 94) C rfl dX7_digest_94 ?_
                              refine v_icmp_ge (pc := 96) C 116 ⟨by (first | assumption | exact hr1.1 | exact hr1.2 | omega), by (first | assumption | exact hr1.1 | exact hr1.2 | omega)⟩ ⟨by (first | assumption | exact hr1.1 | exact hr1.2 | omega), by (first | assumption | exact hr1.1 | exact hr1.2 | omega)⟩ (by decide) dX7_digest_96 (fun h96 => ?_) (fun h96 => ?_)
                              · skip
                                refine v_iinc (pc := 116) C 1 [(1, .int (iI (i + 1))), (0, .ref (adr L 14 0 0)), (2, .int (iI j))] rfl (by decide) rfl dX7_digest_116 ?_
                                refine v_goto (pc := 119) C 80 (by decide) dX7_digest_119 ?_
                                refine v_lsub [1, 0] rfl ?_
                                exact ih80 u (i + 1) (by omega) (by rw [meH_s _ hi.1]; rw [show j = 6 by omega] at hu; exact hu) (by omega)
                              · skip
                                refine v_aload_n (pc := 99) C 0 rfl rfl dX7_digest_99 ?_
                                refine v_aload_n (pc := 100) C 0 rfl rfl dX7_digest_100 ?_
                                refine v_iload_n (pc := 101) C 1 rfl rfl dX7_digest_101 ?_
                                refine v_iload_n (pc := 102) C 2 rfl rfl dX7_digest_102 ?_
                                refine v_calliV (pc := 103) C cw_RX7_157 rcv_14 (ct_X7_tellsEcho l L u d i j (by first | assumption | exact hr1.1 | exact hr1.2 | omega) (by first | assumption | exact hr1.1 | exact hr1.2 | omega) (by first | assumption | exact hr1.1 | exact hr1.2 | omega) (by first | assumption | exact hr1.1 | exact hr1.2 | omega)) ⟨Nat.le_of_ble_eq_true rfl, Nat.le_of_ble_eq_true rfl⟩ rfl (Nat.le_of_ble_eq_true rfl) ⟨Nat.le_of_ble_eq_true rfl, Nat.le_of_ble_eq_true rfl⟩ rfl dX7_digest_103 (fun r9 u9 hP_16 => ?_)
                                obtain ⟨hP_16, hP_16b⟩ := hP_16
                                rw [hP_16, hP_16b]
                                clear hP_16 hP_16b r9 u9
                                refine v_topi (b := mEt g i j) C (e_mEt h15 i j) ?_
                                have hr1 := mEt_rg (r := i) (w := j) hm hd.1 (by omega)
                                refine v_i2l (pc := 106) C ⟨by (first | assumption | exact hr1.1 | exact hr1.2 | omega), by (first | assumption | exact hr1.1 | exact hr1.2 | omega)⟩ dX7_digest_106 ?_
                                refine v_callvV (pc := 107) C cw_RX7_200 rcv_14 (ct_X7_mix l L u (mEt g i j) ) ⟨Nat.le_of_ble_eq_true rfl, Nat.le_of_ble_eq_true rfl⟩ rfl (Nat.le_of_ble_eq_true rfl) ⟨Nat.le_of_ble_eq_true rfl, Nat.le_of_ble_eq_true rfl⟩ rfl dX7_digest_107 (fun u9 hP_17 => ?_)
                                rw [hP_17]
                                clear hP_17 u9
                                refine v_iinc (pc := 110) C 2 [(2, .int (iI (j + 1))), (0, .ref (adr L 14 0 0)), (1, .int (iI i))] rfl (by decide) rfl dX7_digest_110 ?_
                                refine v_goto (pc := 113) C 93 (by decide) dX7_digest_113 ?_
                                refine v_lsub [1, 2, 0] rfl ?_
                                exact ih93 (up u 14 0 0 14 (31 * u 14 0 0 14 + (mEt g i j))) (j + 1) (by omega) (by rw [hs_s _ hj.1]; exact fD_mix hu) (by omega)
                          refine v_lsub [1, 2, 0] rfl ?_
                          exact lb93 _ u 0 (by omega) (by exact hu) (Nat.lt_succ_self _)
                    refine v_lsub [1, 0] rfl ?_
                    exact lb80 _ u 0 (by omega) (by rw [show i = 4 by omega] at hu; exact hu) (Nat.lt_succ_self _)
                  · skip
                    refine v_aload_n (pc := 67) C 0 rfl rfl dX7_digest_67 ?_
                    refine v_iload_n (pc := 68) C 1 rfl rfl dX7_digest_68 ?_
                    refine v_callvV (pc := 69) C cw_RX7_206 rcv_14 (ct_X7_mixPlayer l L u d i (by first | assumption | exact hr1.1 | exact hr1.2 | omega) (by first | assumption | exact hr1.1 | exact hr1.2 | omega) (by first | assumption | exact hr1.1 | exact hr1.2 | omega) (by first | assumption | exact hr1.1 | exact hr1.2 | omega)) ⟨Nat.le_of_ble_eq_true rfl, Nat.le_of_ble_eq_true rfl⟩ rfl (Nat.le_of_ble_eq_true rfl) ⟨Nat.le_of_ble_eq_true rfl, Nat.le_of_ble_eq_true rfl⟩ rfl dX7_digest_69 (fun u9 hP_18 => ?_)
                    rw [hP_18]
                    clear hP_18 u9
                    refine v_iinc (pc := 72) C 1 [(1, .int (iI (i + 1))), (0, .ref (adr L 14 0 0))] rfl (by decide) rfl dX7_digest_72 ?_
                    refine v_goto (pc := 75) C 62 (by decide) dX7_digest_75 ?_
                    refine v_lsub [1, 0] rfl ?_
                    exact ih62 (uH u (mpH u i (u 14 0 0 14))) (i + 1) (by omega) (by rw [mpA_s _ hi.1]; exact fD_pl hu) (by omega)
              refine v_lsub [1, 0] rfl ?_
              exact lb62 _ u 0 (by omega) (by rw [show i = 3 by omega] at hu; exact hu) (Nat.lt_succ_self _)
            · skip
              refine v_aload_n (pc := 43) C 0 rfl rfl dX7_digest_43 ?_
              refine v_aload_n (pc := 44) C 0 rfl rfl dX7_digest_44 ?_
              refine gt_14_1 (pc := 45) C u_4_4 dX7_digest_45 ?_
              refine v_iload_n (pc := 48) C 1 rfl rfl dX7_digest_48 ?_
              refine al_15 (pc := 49) C ⟨by (first | assumption | exact hr1.1 | exact hr1.2 | omega), by (first | assumption | exact hr1.1 | exact hr1.2 | omega)⟩ dX7_digest_49 (g 15 0 0 i) (by rw [h15]) ?_
              have hr1 : rg (g 15 0 0 i) := by (have : i = 0 ∨ i = 1 ∨ i = 2 := by omega); rcases this with h | h | h <;> subst h <;> (unfold rg; omega)
              refine v_i2l (pc := 50) C ⟨by (first | assumption | exact hr1.1 | exact hr1.2 | omega), by (first | assumption | exact hr1.1 | exact hr1.2 | omega)⟩ dX7_digest_50 ?_
              refine v_callvV (pc := 51) C cw_RX7_200 rcv_14 (ct_X7_mix l L u (g 15 0 0 i) ) ⟨Nat.le_of_ble_eq_true rfl, Nat.le_of_ble_eq_true rfl⟩ rfl (Nat.le_of_ble_eq_true rfl) ⟨Nat.le_of_ble_eq_true rfl, Nat.le_of_ble_eq_true rfl⟩ rfl dX7_digest_51 (fun u9 hP_19 => ?_)
              rw [hP_19]
              clear hP_19 u9
              refine v_iinc (pc := 54) C 1 [(1, .int (iI (i + 1))), (0, .ref (adr L 14 0 0))] rfl (by decide) rfl dX7_digest_54 ?_
              refine v_goto (pc := 57) C 38 (by decide) dX7_digest_57 ?_
              refine v_lsub [1, 0] rfl ?_
              exact ih38 (up u 14 0 0 14 (31 * u 14 0 0 14 + (g 15 0 0 i))) (i + 1) (by omega) (by rw [hs_s _ hi.1]; exact fD_mix hu) (by omega)
        refine v_lsub [1, 0] rfl ?_
        exact lb38 _ u 0 (by omega) (by rw [show i = 12 by omega] at hu; exact hu) (Nat.lt_succ_self _)
      · skip
        refine v_aload_n (pc := 20) C 0 rfl rfl dX7_digest_20 ?_
        refine v_aload_n (pc := 21) C 0 rfl rfl dX7_digest_21 ?_
        refine v_iload_n (pc := 22) C 1 rfl rfl dX7_digest_22 ?_
        refine v_calliV (pc := 23) C cw_RX7_163 rcv_14 (ct_X7_tellsCount l L u i (by first | assumption | exact hr1.1 | exact hr1.2 | omega)) ⟨Nat.le_of_ble_eq_true rfl, Nat.le_of_ble_eq_true rfl⟩ rfl (Nat.le_of_ble_eq_true rfl) ⟨Nat.le_of_ble_eq_true rfl, Nat.le_of_ble_eq_true rfl⟩ rfl dX7_digest_23 (fun r9 u9 hP_20 => ?_)
        obtain ⟨hP_20, hP_20b⟩ := hP_20
        rw [hP_20, hP_20b]
        clear hP_20 hP_20b r9 u9
        refine v_topi (b := mCt g i) C (e_mCt h15 h143 i) ?_
        have hr1 := mCt_rg (w := i) hm hcm h3
        refine v_i2l (pc := 26) C ⟨by (first | assumption | exact hr1.1 | exact hr1.2 | omega), by (first | assumption | exact hr1.1 | exact hr1.2 | omega)⟩ dX7_digest_26 ?_
        refine v_callvV (pc := 27) C cw_RX7_200 rcv_14 (ct_X7_mix l L u (mCt g i) ) ⟨Nat.le_of_ble_eq_true rfl, Nat.le_of_ble_eq_true rfl⟩ rfl (Nat.le_of_ble_eq_true rfl) ⟨Nat.le_of_ble_eq_true rfl, Nat.le_of_ble_eq_true rfl⟩ rfl dX7_digest_27 (fun u9 hP_21 => ?_)
        rw [hP_21]
        clear hP_21 u9
        refine v_iinc (pc := 30) C 1 [(1, .int (iI (i + 1))), (0, .ref (adr L 14 0 0))] rfl (by decide) rfl dX7_digest_30 ?_
        refine v_goto (pc := 33) C 14 (by decide) dX7_digest_33 ?_
        refine v_lsub [1, 0] rfl ?_
        exact ih14 (up u 14 0 0 14 (31 * u 14 0 0 14 + (mCt g i))) (i + 1) (by omega) (by rw [hs_s _ hi.1]; exact fD_mix hu) (by omega)
  refine v_lsub [1, 0] rfl ?_
  exact lb14 _ (up (up g 14 0 0 0 0) 14 0 0 14 3467) 0 (by omega) (by exact ⟨fun f hf => by rw [up_ff hf, up_ff hf], fun x a b c d => by rw [up_i d, up_i a], by rw [up_i (by decide), up_s], up_s⟩) (Nat.lt_succ_self _)
