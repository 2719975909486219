/-! the reference: what it tells -/
theorem z1_rg {c : Prop} [Decidable c] : rg (if c then (1 : Int) else 0) := ⟨by split <;> decide, by split <;> decide⟩
theorem z1_net {c : Prop} [Decidable c] (h : (if c then (1 : Int) else 0) ≠ 0) : c := Decidable.byContradiction (fun hn => h (if_neg hn))
theorem z1_nef {c : Prop} [Decidable c] (h : ¬ (if c then (1 : Int) else 0) ≠ 0) : ¬ c := fun hc => h (by rw [if_pos hc]; decide)
theorem z1_eqt {c : Prop} [Decidable c] (h : (if c then (1 : Int) else 0) = 0) : ¬ c := fun hc => by rw [if_pos hc] at h; exact absurd h (by decide)
theorem z1_eqf {c : Prop} [Decidable c] (h : ¬ (if c then (1 : Int) else 0) = 0) : c := Decidable.byContradiction (fun hn => h (if_neg hn))
abbrev t0 (g : St) : St := up g 14 0 0 0 0
abbrev er (g : St) (c : Int) : St := up (up g 14 0 0 0 0) 14 0 0 0 c
theorem t0_f {g : St} {f : Nat} (h : f ≠ 14) : t0 g f = g f := up_ff h
def mpl (g : St) (p w : Int) : Int := if w < 3 then g 15 0 0 (10 + 6 * p + w) else if w = 3 then mUw g p else g 15 0 0 (10 + 6 * p + (w - 1))
def sumM (g : St) (w : Int) : Int := g 15 0 0 (10 + 6 * 0 + w) + g 15 0 0 (10 + 6 * 1 + w) + g 15 0 0 (10 + 6 * 2 + w) + g 15 0 0 (10 + 6 * 3 + w)
def mCt (g : St) (w : Int) : Int := if w = 0 then g 15 0 0 3 else if w = 1 then g 15 0 0 4 else if w = 2 then g 15 0 0 5 else if w = 3 then g 15 0 0 6 else if w = 4 then g 15 0 0 9 else if w = 5 then g 15 0 0 8 else if w = 6 then sumM g 3 else if w = 7 then sumM g 4 else if w = 8 then sumM g 5 else if w = 9 then sumM g 1 else if w = 10 then g 15 0 0 7 else g 14 0 0 3
abbrev mD1 (g : St) (p w : Int) : Int := mDl g (g 15 0 0 (10 + 6 * p + 0)) w
abbrev mIs (g : St) (p w t : Int) : Prop := mD1 g p 0 = mD1 g p 1 ∨ 0 < mCo g (g 15 0 0 (10 + 6 * p + 0)) (g 15 0 0 3 + (t + mD1 g p w))
abbrev mUn (g : St) (n : Int) : Int := unf (g 15 0 0 4) 1 (g 15 0 0 6) n (g 15 0 0 0)
abbrev mMe (g : St) (p w t : Int) : Prop := ¬ mIs g p w t ∧ mUn g ((t + mD1 g p w) * g 15 0 0 5) = g 15 0 0 (10 + 6 * p + 0)
def mMB (g : St) (p : Int) : Int → Bool := fun t => decide (mMe g p 0 t ∨ mMe g p 1 t)
def mBw (g : St) (p : Int) : Int := frst (mMB g p) 61 0
def mQu (g : St) : Int := mxN (fun i => g 15 0 0 (34 + 5 * i + 3)) (g 15 0 0 9).toNat (g 15 0 0 3)
abbrev mBe (g : St) (p q : Int) : Prop := 0 < g 15 0 0 (10 + 6 * q + 1) - g 15 0 0 (10 + 6 * p + 1) ∨ (g 15 0 0 (10 + 6 * q + 1) - g 15 0 0 (10 + 6 * p + 1) = 0 ∧ g 15 0 0 (10 + 6 * p + 3) < g 15 0 0 (10 + 6 * q + 3))
def mBs (g : St) : Nat → Int
  | 0 => 0
  | n + 1 => if n = 0 then 0 else if mBe g (mBs g n) n then n else mBs g n
theorem mBs_in (g : St) : ∀ n : Nat, 0 ≤ mBs g n ∧ (mBs g n < n ∨ mBs g n = 0)
  | 0 => ⟨by simp [mBs], Or.inr rfl⟩
  | n + 1 => by
    have ih := mBs_in g n
    rw [mBs]; (repeat' split) <;> omega
theorem mBs_s (g : St) {i : Int} (h : 1 ≤ i) : mBs g (i + 1).toNat = if mBe g (mBs g i.toNat) i then i else mBs g i.toNat := by
  rw [show (i + 1).toNat = i.toNat + 1 by omega, mBs, if_neg (by omega), show ((i.toNat : Nat) : Int) = i by omega]
theorem mUw_in (g : St) (p : Int) : 0 ≤ mUw g p ∧ mUw g p ≤ (g 15 0 0 9).toNat := cn_nn _ _
theorem mCo_in (g : St) (p t : Int) : 0 ≤ mCo g p t ∧ mCo g p t ≤ (g 15 0 0 9).toNat := cn_nn _ _
def ctM (g : St) : Prop := ∀ x, 7 ≤ x → x < 34 → 0 ≤ g 15 0 0 x ∧ g 15 0 0 x ≤ 100000000
/-- the rank -/
abbrev bef (g : St) (i e : Int) : Prop := g 15 0 0 (34 + 5 * e + 3) - g 15 0 0 (34 + 5 * i + 3) < 0 ∨ (g 15 0 0 (34 + 5 * e + 3) - g 15 0 0 (34 + 5 * i + 3) = 0 ∧ e < i)
def rk (g : St) (i : Int) : Int := cn (fun e => decide (bef g i e)) (g 15 0 0 9).toNat
def eaM (g : St) (r : Int) : Nat → Int
  | 0 => -1
  | n + 1 => if rk g n = r then n else eaM g r n
theorem eaM_s (g : St) {r i : Int} (h : 0 ≤ i) : eaM g r (i + 1).toNat = if rk g i = r then i else eaM g r i.toNat := by
  rw [show (i + 1).toNat = i.toNat + 1 by omega, eaM, show ((i.toNat : Nat) : Int) = i by omega]
theorem eaM_in (g : St) (r : Int) : ∀ n : Nat, -1 ≤ eaM g r n ∧ (eaM g r n < n)
  | 0 => ⟨by simp [eaM], by simp [eaM]⟩
  | n + 1 => by have ih := eaM_in g r n; rw [eaM]; split <;> omega
def mEt (g : St) (r w : Int) : Int := let i := eaM g r (g 15 0 0 9).toNat; if i = -1 then -1 else if w = 3 then g 15 0 0 (34 + 5 * i + 3) - g 15 0 0 3 else if w = 4 then g 15 0 0 (34 + 5 * i + 4) else if w = 5 then (if 1 < mCo g (g 15 0 0 (34 + 5 * i + 1)) (g 15 0 0 (34 + 5 * i + 3)) then 1 else 0) else g 15 0 0 (34 + 5 * i + w)
def mbT (g : St) : St := up (up g 14 0 0 12 (g 15 0 0 4)) 14 0 0 13 (g 15 0 0 6)
def mbM (g : St) (t : Int) : St := mbG (mbT g) (t * g 15 0 0 5).toNat
def mbA (g : St) (t w : Int) : Int := if w = 0 then mbM g t 14 0 0 12 else if w = 1 then mUn g (t * g 15 0 0 5) else mbM g t 14 0 0 13
theorem mbG_f (g : St) (n : Nat) {f : Nat} (h : f ≠ 14) : mbG g n f = g f := by unfold mbG; rw [up_ff h, up_ff h]
theorem mbM_f (g : St) (t : Int) {f : Nat} (h : f ≠ 14) : mbM g t f = g f := by unfold mbM mbT; rw [mbG_f _ _ h, up_ff h, up_ff h]
theorem mbM_in {g : St} {d t : Int} (h : wm (g 15 0 0) d) : (0 ≤ mbM g t 14 0 0 12 ∧ mbM g t 14 0 0 12 ≤ g 15 0 0 0) ∧ (mbM g t 14 0 0 13 = 0 ∨ mbM g t 14 0 0 13 = 1) := by
  obtain ⟨mS0, mS1, mS2, mB0, mB1, mB2, -⟩ := h
  have hb := bwalk_in (last := g 15 0 0 0) (by omega) (q := (g 15 0 0 4, g 15 0 0 6)) mB0 mB2 (t * g 15 0 0 5).toNat
  have e1 : mbM g t 14 0 0 12 = (bwalk (g 15 0 0 0) (t * g 15 0 0 5).toNat (g 15 0 0 4, g 15 0 0 6)).1 := by simp [mbM, mbT, mbG, up]
  have e2 : mbM g t 14 0 0 13 = (bwalk (g 15 0 0 0) (t * g 15 0 0 5).toNat (g 15 0 0 4, g 15 0 0 6)).2 := by simp [mbM, mbT, mbG, up]
  rw [e1, e2]; exact hb

theorem cw_RX7_60 : CW RX7 60 RX7 yX7_underWay cX7_underWay 4 (some .int) 1 := ⟨u_9_6, u_9_7, u_9_8, u_1_5, u_9_9, by decide +kernel⟩
theorem cw_RX7_71 : CW RX7 71 RX7 yX7_takeBall cX7_takeBall 1 none 0 := ⟨u_15_19, u_15_20, u_15_21, u_1_5, u_15_22, by decide +kernel⟩
theorem cw_RX7_74 : CW RX7 74 RX7 yX7_moveBall cX7_moveBall 3 none 1 := ⟨u_15_23, u_16_0, u_16_1, u_1_5, u_16_2, by decide +kernel⟩
theorem cw_RX7_77 : CW RX7 77 RX7 yX7_comingTo cX7_comingTo 5 (some .int) 2 := ⟨u_16_3, u_16_4, u_16_5, u_1_5, u_16_6, by decide +kernel⟩
theorem cw_RX7_154 : CW RX7 154 RX7 yX7_echoAt cX7_echoAt 7 (some .int) 1 := ⟨u_25_19, u_25_20, u_25_21, u_1_5, u_25_22, by decide +kernel⟩
theorem cw_RX7_160 : CW RX7 160 RX7 yX7_sum cX7_sum 4 (some .int) 1 := ⟨u_27_8, u_27_9, u_27_10, u_1_5, u_27_11, by decide +kernel⟩
theorem cw_RX7_166 : CW RX7 166 RX7 yX7_unfolded cX7_unfolded 4 (some .int) 1 := ⟨u_29_1, u_29_2, u_29_3, u_1_5, u_29_4, by decide +kernel⟩
theorem cw_RX7_172 : CW RX7 172 RX7 yX7_delayOf cX7_delayOf 3 (some .int) 2 := ⟨u_29_19, u_29_20, u_29_21, u_1_5, u_29_22, by decide +kernel⟩
theorem cw_RX7_175 : CW RX7 175 RX7 yX7_isClash cX7_isClash 6 (some .boolean) 3 := ⟨u_30_18, u_30_19, u_30_20, u_1_5, u_30_21, by decide +kernel⟩
theorem cw_RX7_178 : CW RX7 178 RX7 yX7_meetsBall cX7_meetsBall 5 (some .boolean) 3 := ⟨u_31_22, u_31_23, u_32_0, u_1_5, u_32_1, by decide +kernel⟩
set_option maxHeartbeats 4000000 in
set_option maxRecDepth 100000 in
theorem ct_X7_doesWalk (l : Launch) (L : Lay) (g : St) (p b : Int) (hm : wm (g 15 0 0) 1) (hp : 0 ≤ p ∧ p < 4) (hb : -1000 ≤ b ∧ b ≤ 1000) : Met l yX7_doesWalk (.code yX7_doesWalk cX7_doesWalk 4 (some .int) :: wsL_law) { frames := 1, cells := 0, slots := 0, locals := 22 } (va_Pc [.ref (adr L 14 0 0), .int (iI p), .int (iI b)] (HS L g)) (va_Qi (fun (r9 : Int32) (u9 : St) => r9 = iI (mvRM g p b) ∧ u9 = (mvGM g p b)) (fun u t => HS L u t) (Af L)) 0 0 (Af L) := by
  refine ct_mk (by decide +kernel) (Nat.le_of_ble_eq_true rfl) ?_
  intro pp ee ss mm bel mth cx C hr hlk
  show V pp l ee { frames := 1, cells := 0, slots := 0, locals := 22 } ss mm ([.ref (adr L 14 0 0), .int (iI p), .int (iI b)]).toArray bel mth cx 4 L (HH L g) 0 0 _ 0 [(0, .ref (adr L 14 0 0)), (1, .int (iI p)), (2, .int (iI b))] []
  obtain ⟨mS0, mS1, mS2, mB0, mB1, mB2, mCl, mN, mPl, mEc⟩ := id hm
  have hpl := mPl p hp.1 hp.2
  refine v_aload_n (pc := 0) C 0 rfl rfl dX7_doesWalk_0 ?_
  refine v_iload_n (pc := 1) C 1 rfl rfl dX7_doesWalk_1 ?_
  refine v_iconst (pc := 2) C dX7_doesWalk_2 ?_
  refine v_calliV (pc := 3) C cw_RX7_33 rcv_14 (ct_X7_ofPlayer l L g p 0 (by first | assumption | omega | (unfold rg; omega)) (by first | assumption | omega | (unfold rg; omega))) ⟨Nat.le_of_ble_eq_true rfl, Nat.le_of_ble_eq_true rfl⟩ rfl (Nat.le_of_ble_eq_true rfl) ⟨Nat.le_of_ble_eq_true rfl, Nat.le_of_ble_eq_true rfl⟩ rfl dX7_doesWalk_3 (fun r9 u9 hP_1 => ?_)
  obtain ⟨hP_1, hP_1b⟩ := hP_1
  rw [hP_1, hP_1b]
  clear hP_1 hP_1b r9 u9
  refine v_iload_n (pc := 6) C 2 rfl rfl dX7_doesWalk_6 ?_
  refine v_iadd (pc := 7) C dX7_doesWalk_7 ?_
  refine v_istore_n (pc := 8) C [(3, .int (iI ((g 15 0 0 (10 + 6 * p + 0)) + b))), (0, .ref (adr L 14 0 0)), (1, .int (iI p)), (2, .int (iI b))] rfl (by decide) rfl dX7_doesWalk_8 ?_
  refine v_iload_n (pc := 9) C 0 rfl rfl dX7_doesWalk_9 ?_
  refine v_iconst (pc := 10) C dX7_doesWalk_10 ?_
  refine v_aload_n (pc := 11) C 1 rfl rfl dX7_doesWalk_11 ?_
  refine gt_14_1 (pc := 12) C u_4_4 dX7_doesWalk_12 ?_
  refine v_iconst (pc := 15) C dX7_doesWalk_15 ?_
  refine al_15 (pc := 16) C ⟨by (first | assumption | omega | (unfold rg; omega)), by (first | assumption | omega | (unfold rg; omega))⟩ dX7_doesWalk_16 (g 15 0 0 0) (rfl) ?_
  refine v_calliS (pc := 17) C cw_RX7_29 (ct_X7_within l L g ((g 15 0 0 (10 + 6 * p + 0)) + b) 0 (g 15 0 0 0) (by first | assumption | omega | (unfold rg; omega)) (by first | assumption | omega | (unfold rg; omega)) (by first | assumption | omega | (unfold rg; omega))) ⟨Nat.le_of_ble_eq_true rfl, Nat.le_of_ble_eq_true rfl⟩ rfl (Nat.le_of_ble_eq_true rfl) ⟨Nat.le_of_ble_eq_true rfl, Nat.le_of_ble_eq_true rfl⟩ rfl dX7_doesWalk_17 (fun r9 u9 hP_2 => ?_)
  obtain ⟨hP_2, hP_2b⟩ := hP_2
  rw [hP_2, hP_2b]
  clear hP_2 hP_2b r9 u9
  refine v_if_ne (pc := 20) C 36 z1_rg (by decide) dX7_doesWalk_20 (fun h20 => ?_) (fun h20 => ?_)
  · skip
    have h20c := z1_net h20
    refine v_aload_n (pc := 36) C 1 rfl rfl dX7_doesWalk_36 ?_
    refine gt_14_1 (pc := 37) C u_4_4 dX7_doesWalk_37 ?_
    refine v_bipush (pc := 40) C rfl dX7_doesWalk_40 ?_
    refine v_bipush (pc := 42) C rfl dX7_doesWalk_42 ?_
    refine v_iload_n (pc := 44) C 2 rfl rfl dX7_doesWalk_44 ?_
    refine v_imul (pc := 45) C dX7_doesWalk_45 ?_
    refine v_iadd (pc := 46) C dX7_doesWalk_46 ?_
    refine v_iconst (pc := 47) C dX7_doesWalk_47 ?_
    refine v_iadd (pc := 48) C dX7_doesWalk_48 ?_
    refine v_iload_n (pc := 49) C 0 rfl rfl dX7_doesWalk_49 ?_
    refine as_15 (pc := 50) C ⟨by (first | assumption | omega | (unfold rg; omega)), by (first | assumption | omega | (unfold rg; omega))⟩ dX7_doesWalk_50 ?_
    refine v_iload_n (pc := 51) C 0 rfl rfl dX7_doesWalk_51 ?_
    exact v_iret (pc := 52) C hr hlk (⟨congrArg iI (by unfold mvRM mvOM; rw [if_neg (by omega)]), by unfold mvGM mvOM; first | rw [if_pos (by omega)] | rw [if_neg (by omega)]⟩) dX7_doesWalk_52
  · skip
    have h20c := z1_nef h20
    refine v_aload_n (pc := 23) C 1 rfl rfl dX7_doesWalk_23 ?_
    refine gt_14_1 (pc := 24) C u_4_4 dX7_doesWalk_24 ?_
    refine v_bipush (pc := 27) C rfl dX7_doesWalk_27 ?_
    refine v_dup2 (pc := 29) C rfl rfl dX7_doesWalk_29 ?_
    refine al_15 (pc := 30) C ⟨by (first | assumption | omega | (unfold rg; omega)), by (first | assumption | omega | (unfold rg; omega))⟩ dX7_doesWalk_30 (g 15 0 0 7) (rfl) ?_
    refine v_iconst (pc := 31) C dX7_doesWalk_31 ?_
    refine v_iadd (pc := 32) C dX7_doesWalk_32 ?_
    refine as_15 (pc := 33) C ⟨by (first | assumption | omega | (unfold rg; omega)), by (first | assumption | omega | (unfold rg; omega))⟩ dX7_doesWalk_33 ?_
    refine v_iconst (pc := 34) C dX7_doesWalk_34 ?_
    exact v_iret (pc := 35) C hr hlk (⟨congrArg iI (by unfold mvRM mvOM; rw [if_pos (by omega)]), by unfold mvGM mvOM; first | rw [if_pos (by omega)] | rw [if_neg (by omega)]⟩) dX7_doesWalk_35
set_option maxHeartbeats 4000000 in
set_option maxRecDepth 100000 in
theorem ct_X7_tellsPlayer (l : Launch) (L : Lay) (g : St) (d p w : Int) (hm : wm (g 15 0 0) d) (hd : 0 ≤ d ∧ d ≤ 1) (hp : 0 ≤ p ∧ p < 4) (hw : 0 ≤ w ∧ w ≤ 6) : Met l yX7_tellsPlayer (.code yX7_tellsPlayer cX7_tellsPlayer 3 (some .int) :: wsL_law) { frames := 2, cells := 0, slots := 0, locals := 45 } (va_Pc [.ref (adr L 14 0 0), .int (iI p), .int (iI w)] (HS L g)) (va_Qi (fun (r9 : Int32) (u9 : St) => r9 = iI (mpl g p w) ∧ u9 = g) (fun u t => HS L u t) (Af L)) 0 0 (Af L) := by
  refine ct_mk (by decide +kernel) (Nat.le_of_ble_eq_true rfl) ?_
  intro pp ee ss mm bel mth cx C hr hlk
  show V pp l ee { frames := 2, cells := 0, slots := 0, locals := 45 } ss mm ([.ref (adr L 14 0 0), .int (iI p), .int (iI w)]).toArray bel mth cx 3 L (HH L g) 0 0 _ 0 [(0, .ref (adr L 14 0 0)), (1, .int (iI p)), (2, .int (iI w))] []
  refine v_iload_n (pc := 0) C 2 rfl rfl dX7_tellsPlayer_0 ?_
  refine v_iconst (pc := 1) C dX7_tellsPlayer_1 ?_
  refine v_icmp_ge (pc := 2) C 14 ⟨by (first | assumption | omega | (unfold rg; omega)), by (first | assumption | omega | (unfold rg; omega))⟩ ⟨by (first | assumption | omega | (unfold rg; omega)), by (first | assumption | omega | (unfold rg; omega))⟩ (by decide) dX7_tellsPlayer_2 (fun h2 => ?_) (fun h2 => ?_)
  · skip
    refine v_iload_n (pc := 14) C 2 rfl rfl dX7_tellsPlayer_14 ?_
    refine v_iconst (pc := 15) C dX7_tellsPlayer_15 ?_
    refine v_icmp_ne (pc := 16) C 27 ⟨by (first | assumption | omega | (unfold rg; omega)), by (first | assumption | omega | (unfold rg; omega))⟩ ⟨by (first | assumption | omega | (unfold rg; omega)), by (first | assumption | omega | (unfold rg; omega))⟩ (by decide) dX7_tellsPlayer_16 (fun h16 => ?_) (fun h16 => ?_)
    · skip
      refine v_aload_n (pc := 27) C 0 rfl rfl dX7_tellsPlayer_27 ?_
      refine v_iload_n (pc := 28) C 1 rfl rfl dX7_tellsPlayer_28 ?_
      refine v_iload_n (pc := 29) C 2 rfl rfl dX7_tellsPlayer_29 ?_
      refine v_iconst (pc := 30) C dX7_tellsPlayer_30 ?_
      refine v_isub (pc := 31) C dX7_tellsPlayer_31 ?_
      refine v_calliV (pc := 32) C cw_RX7_33 rcv_14 (ct_X7_ofPlayer l L g p (w - 1) (by first | assumption | omega | (unfold rg; omega)) (by first | assumption | omega | (unfold rg; omega))) ⟨Nat.le_of_ble_eq_true rfl, Nat.le_of_ble_eq_true rfl⟩ rfl (Nat.le_of_ble_eq_true rfl) ⟨Nat.le_of_ble_eq_true rfl, Nat.le_of_ble_eq_true rfl⟩ rfl dX7_tellsPlayer_32 (fun r9 u9 hP_1 => ?_)
      obtain ⟨hP_1, hP_1b⟩ := hP_1
      rw [hP_1, hP_1b]
      clear hP_1 hP_1b r9 u9
      exact v_iret (pc := 35) C hr hlk (⟨congrArg iI (by unfold mpl; first | (rw [if_pos (by omega)]) | (rw [if_neg (by omega), if_pos (by omega)]) | (rw [if_neg (by omega), if_neg (by omega)])), rfl⟩) dX7_tellsPlayer_35
    · skip
      refine v_aload_n (pc := 19) C 0 rfl rfl dX7_tellsPlayer_19 ?_
      refine v_iload_n (pc := 20) C 1 rfl rfl dX7_tellsPlayer_20 ?_
      refine v_calliV (pc := 21) C cw_RX7_60 rcv_14 (ct_X7_underWay l L g d p (by first | assumption | omega | (unfold rg; omega)) (by first | assumption | omega | (unfold rg; omega)) (by first | assumption | omega | (unfold rg; omega))) ⟨Nat.le_of_ble_eq_true rfl, Nat.le_of_ble_eq_true rfl⟩ rfl (Nat.le_of_ble_eq_true rfl) ⟨Nat.le_of_ble_eq_true rfl, Nat.le_of_ble_eq_true rfl⟩ rfl dX7_tellsPlayer_21 (fun r9 u9 hP_2 => ?_)
      obtain ⟨hP_2, hP_2b⟩ := hP_2
      rw [hP_2, hP_2b]
      clear hP_2 hP_2b r9 u9
      refine v_goto (pc := 24) C 35 (by decide) dX7_tellsPlayer_24 ?_
      exact v_iret (pc := 35) C hr hlk (⟨congrArg iI (by unfold mpl; first | (rw [if_pos (by omega)]) | (rw [if_neg (by omega), if_pos (by omega)]) | (rw [if_neg (by omega), if_neg (by omega)])), rfl⟩) dX7_tellsPlayer_35
  · skip
    refine v_aload_n (pc := 5) C 0 rfl rfl dX7_tellsPlayer_5 ?_
    refine v_iload_n (pc := 6) C 1 rfl rfl dX7_tellsPlayer_6 ?_
    refine v_iload_n (pc := 7) C 2 rfl rfl dX7_tellsPlayer_7 ?_
    refine v_calliV (pc := 8) C cw_RX7_33 rcv_14 (ct_X7_ofPlayer l L g p w (by first | assumption | omega | (unfold rg; omega)) (by first | assumption | omega | (unfold rg; omega))) ⟨Nat.le_of_ble_eq_true rfl, Nat.le_of_ble_eq_true rfl⟩ rfl (Nat.le_of_ble_eq_true rfl) ⟨Nat.le_of_ble_eq_true rfl, Nat.le_of_ble_eq_true rfl⟩ rfl dX7_tellsPlayer_8 (fun r9 u9 hP_3 => ?_)
    obtain ⟨hP_3, hP_3b⟩ := hP_3
    rw [hP_3, hP_3b]
    clear hP_3 hP_3b r9 u9
    refine v_goto (pc := 11) C 35 (by decide) dX7_tellsPlayer_11 ?_
    exact v_iret (pc := 35) C hr hlk (⟨congrArg iI (by unfold mpl; first | (rw [if_pos (by omega)]) | (rw [if_neg (by omega), if_pos (by omega)]) | (rw [if_neg (by omega), if_neg (by omega)])), rfl⟩) dX7_tellsPlayer_35
set_option maxHeartbeats 4000000 in
set_option maxRecDepth 100000 in
theorem ct_X7_tellsCount (l : Launch) (L : Lay) (g : St) (w : Int) (hw : 0 ≤ w ∧ w ≤ 11) : Met l yX7_tellsCount (.code yX7_tellsCount cX7_tellsCount 2 (some .int) :: wsL_law) { frames := 2, cells := 0, slots := 0, locals := 45 } (va_Pc [.ref (adr L 14 0 0), .int (iI w)] (HS L g)) (va_Qi (fun (r9 : Int32) (u9 : St) => r9 = iI (mCt g w) ∧ u9 = g) (fun u t => HS L u t) (Af L)) 0 0 (Af L) := by
  refine ct_mk (by decide +kernel) (Nat.le_of_ble_eq_true rfl) ?_
  intro pp ee ss mm bel mth cx C hr hlk
  show V pp l ee { frames := 2, cells := 0, slots := 0, locals := 45 } ss mm ([.ref (adr L 14 0 0), .int (iI w)]).toArray bel mth cx 2 L (HH L g) 0 0 _ 0 [(0, .ref (adr L 14 0 0)), (1, .int (iI w))] []
  refine v_iload_n (pc := 0) C 1 rfl rfl dX7_tellsCount_0 ?_
  by_cases h1_0 : w = 0
  · skip
    refine v_tableIn (pc := 1) (o := 59) C 60 ⟨by (first | assumption | omega | (unfold rg; omega)), by (first | assumption | omega | (unfold rg; omega))⟩ (by (first | assumption | omega | (unfold rg; omega))) (by (first | assumption | omega | (unfold rg; omega))) (by rw [h1_0]; rfl) (by decide) dX7_tellsCount_1 ?_
    refine v_aload_n (pc := 60) C 0 rfl rfl dX7_tellsCount_60 ?_
    refine gt_14_1 (pc := 61) C u_4_4 dX7_tellsCount_61 ?_
    refine v_iconst (pc := 64) C dX7_tellsCount_64 ?_
    refine al_15 (pc := 65) C ⟨by (first | assumption | omega | (unfold rg; omega)), by (first | assumption | omega | (unfold rg; omega))⟩ dX7_tellsCount_65 (g 15 0 0 3) (rfl) ?_
    exact v_iret (pc := 66) C hr hlk (⟨congrArg iI (by unfold mCt; simp only [*]; first | rfl | decide | (simp; done) | (rw [if_neg (by omega)]; rfl) | (simp [sumM]; done) | (repeat rw [if_neg (by omega)])), rfl⟩) dX7_tellsCount_66
  by_cases h1_1 : w = 1
  · skip
    refine v_tableIn (pc := 1) (o := 66) C 67 ⟨by (first | assumption | omega | (unfold rg; omega)), by (first | assumption | omega | (unfold rg; omega))⟩ (by (first | assumption | omega | (unfold rg; omega))) (by (first | assumption | omega | (unfold rg; omega))) (by rw [h1_1]; rfl) (by decide) dX7_tellsCount_1 ?_
    refine v_aload_n (pc := 67) C 0 rfl rfl dX7_tellsCount_67 ?_
    refine gt_14_1 (pc := 68) C u_4_4 dX7_tellsCount_68 ?_
    refine v_iconst (pc := 71) C dX7_tellsCount_71 ?_
    refine al_15 (pc := 72) C ⟨by (first | assumption | omega | (unfold rg; omega)), by (first | assumption | omega | (unfold rg; omega))⟩ dX7_tellsCount_72 (g 15 0 0 4) (rfl) ?_
    exact v_iret (pc := 73) C hr hlk (⟨congrArg iI (by unfold mCt; simp only [*]; first | rfl | decide | (simp; done) | (rw [if_neg (by omega)]; rfl) | (simp [sumM]; done) | (repeat rw [if_neg (by omega)])), rfl⟩) dX7_tellsCount_73
  by_cases h1_2 : w = 2
  · skip
    refine v_tableIn (pc := 1) (o := 73) C 74 ⟨by (first | assumption | omega | (unfold rg; omega)), by (first | assumption | omega | (unfold rg; omega))⟩ (by (first | assumption | omega | (unfold rg; omega))) (by (first | assumption | omega | (unfold rg; omega))) (by rw [h1_2]; rfl) (by decide) dX7_tellsCount_1 ?_
    refine v_aload_n (pc := 74) C 0 rfl rfl dX7_tellsCount_74 ?_
    refine gt_14_1 (pc := 75) C u_4_4 dX7_tellsCount_75 ?_
    refine v_iconst (pc := 78) C dX7_tellsCount_78 ?_
    refine al_15 (pc := 79) C ⟨by (first | assumption | omega | (unfold rg; omega)), by (first | assumption | omega | (unfold rg; omega))⟩ dX7_tellsCount_79 (g 15 0 0 5) (rfl) ?_
    exact v_iret (pc := 80) C hr hlk (⟨congrArg iI (by unfold mCt; simp only [*]; first | rfl | decide | (simp; done) | (rw [if_neg (by omega)]; rfl) | (simp [sumM]; done) | (repeat rw [if_neg (by omega)])), rfl⟩) dX7_tellsCount_80
  by_cases h1_3 : w = 3
  · skip
    refine v_tableIn (pc := 1) (o := 80) C 81 ⟨by (first | assumption | omega | (unfold rg; omega)), by (first | assumption | omega | (unfold rg; omega))⟩ (by (first | assumption | omega | (unfold rg; omega))) (by (first | assumption | omega | (unfold rg; omega))) (by rw [h1_3]; rfl) (by decide) dX7_tellsCount_1 ?_
    refine v_aload_n (pc := 81) C 0 rfl rfl dX7_tellsCount_81 ?_
    refine gt_14_1 (pc := 82) C u_4_4 dX7_tellsCount_82 ?_
    refine v_bipush (pc := 85) C rfl dX7_tellsCount_85 ?_
    refine al_15 (pc := 87) C ⟨by (first | assumption | omega | (unfold rg; omega)), by (first | assumption | omega | (unfold rg; omega))⟩ dX7_tellsCount_87 (g 15 0 0 6) (rfl) ?_
    exact v_iret (pc := 88) C hr hlk (⟨congrArg iI (by unfold mCt; simp only [*]; first | rfl | decide | (simp; done) | (rw [if_neg (by omega)]; rfl) | (simp [sumM]; done) | (repeat rw [if_neg (by omega)])), rfl⟩) dX7_tellsCount_88
  by_cases h1_4 : w = 4
  · skip
    refine v_tableIn (pc := 1) (o := 88) C 89 ⟨by (first | assumption | omega | (unfold rg; omega)), by (first | assumption | omega | (unfold rg; omega))⟩ (by (first | assumption | omega | (unfold rg; omega))) (by (first | assumption | omega | (unfold rg; omega))) (by rw [h1_4]; rfl) (by decide) dX7_tellsCount_1 ?_
    refine v_aload_n (pc := 89) C 0 rfl rfl dX7_tellsCount_89 ?_
    refine gt_14_1 (pc := 90) C u_4_4 dX7_tellsCount_90 ?_
    refine v_bipush (pc := 93) C rfl dX7_tellsCount_93 ?_
    refine al_15 (pc := 95) C ⟨by (first | assumption | omega | (unfold rg; omega)), by (first | assumption | omega | (unfold rg; omega))⟩ dX7_tellsCount_95 (g 15 0 0 9) (rfl) ?_
    exact v_iret (pc := 96) C hr hlk (⟨congrArg iI (by unfold mCt; simp only [*]; first | rfl | decide | (simp; done) | (rw [if_neg (by omega)]; rfl) | (simp [sumM]; done) | (repeat rw [if_neg (by omega)])), rfl⟩) dX7_tellsCount_96
  by_cases h1_5 : w = 5
  · skip
    refine v_tableIn (pc := 1) (o := 96) C 97 ⟨by (first | assumption | omega | (unfold rg; omega)), by (first | assumption | omega | (unfold rg; omega))⟩ (by (first | assumption | omega | (unfold rg; omega))) (by (first | assumption | omega | (unfold rg; omega))) (by rw [h1_5]; rfl) (by decide) dX7_tellsCount_1 ?_
    refine v_aload_n (pc := 97) C 0 rfl rfl dX7_tellsCount_97 ?_
    refine gt_14_1 (pc := 98) C u_4_4 dX7_tellsCount_98 ?_
    refine v_bipush (pc := 101) C rfl dX7_tellsCount_101 ?_
    refine al_15 (pc := 103) C ⟨by (first | assumption | omega | (unfold rg; omega)), by (first | assumption | omega | (unfold rg; omega))⟩ dX7_tellsCount_103 (g 15 0 0 8) (rfl) ?_
    exact v_iret (pc := 104) C hr hlk (⟨congrArg iI (by unfold mCt; simp only [*]; first | rfl | decide | (simp; done) | (rw [if_neg (by omega)]; rfl) | (simp [sumM]; done) | (repeat rw [if_neg (by omega)])), rfl⟩) dX7_tellsCount_104
  by_cases h1_6 : w = 6
  · skip
    refine v_tableIn (pc := 1) (o := 104) C 105 ⟨by (first | assumption | omega | (unfold rg; omega)), by (first | assumption | omega | (unfold rg; omega))⟩ (by (first | assumption | omega | (unfold rg; omega))) (by (first | assumption | omega | (unfold rg; omega))) (by rw [h1_6]; rfl) (by decide) dX7_tellsCount_1 ?_
    refine v_aload_n (pc := 105) C 0 rfl rfl dX7_tellsCount_105 ?_
    refine v_iconst (pc := 106) C dX7_tellsCount_106 ?_
    refine v_calliV (pc := 107) C cw_RX7_160 rcv_14 (ct_X7_sum l L g 3 (by first | assumption | omega | (unfold rg; omega))) ⟨Nat.le_of_ble_eq_true rfl, Nat.le_of_ble_eq_true rfl⟩ rfl (Nat.le_of_ble_eq_true rfl) ⟨Nat.le_of_ble_eq_true rfl, Nat.le_of_ble_eq_true rfl⟩ rfl dX7_tellsCount_107 (fun r9 u9 hP_1 => ?_)
    obtain ⟨hP_1, hP_1b⟩ := hP_1
    rw [hP_1, hP_1b]
    clear hP_1 hP_1b r9 u9
    exact v_iret (pc := 110) C hr hlk (⟨congrArg iI (by unfold mCt; simp only [*]; first | rfl | decide | (simp; done) | (rw [if_neg (by omega)]; rfl) | (simp [sumM]; done) | (repeat rw [if_neg (by omega)])), rfl⟩) dX7_tellsCount_110
  by_cases h1_7 : w = 7
  · skip
    refine v_tableIn (pc := 1) (o := 110) C 111 ⟨by (first | assumption | omega | (unfold rg; omega)), by (first | assumption | omega | (unfold rg; omega))⟩ (by (first | assumption | omega | (unfold rg; omega))) (by (first | assumption | omega | (unfold rg; omega))) (by rw [h1_7]; rfl) (by decide) dX7_tellsCount_1 ?_
    refine v_aload_n (pc := 111) C 0 rfl rfl dX7_tellsCount_111 ?_
    refine v_iconst (pc := 112) C dX7_tellsCount_112 ?_
    refine v_calliV (pc := 113) C cw_RX7_160 rcv_14 (ct_X7_sum l L g 4 (by first | assumption | omega | (unfold rg; omega))) ⟨Nat.le_of_ble_eq_true rfl, Nat.le_of_ble_eq_true rfl⟩ rfl (Nat.le_of_ble_eq_true rfl) ⟨Nat.le_of_ble_eq_true rfl, Nat.le_of_ble_eq_true rfl⟩ rfl dX7_tellsCount_113 (fun r9 u9 hP_2 => ?_)
    obtain ⟨hP_2, hP_2b⟩ := hP_2
    rw [hP_2, hP_2b]
    clear hP_2 hP_2b r9 u9
    exact v_iret (pc := 116) C hr hlk (⟨congrArg iI (by unfold mCt; simp only [*]; first | rfl | decide | (simp; done) | (rw [if_neg (by omega)]; rfl) | (simp [sumM]; done) | (repeat rw [if_neg (by omega)])), rfl⟩) dX7_tellsCount_116
  by_cases h1_8 : w = 8
  · skip
    refine v_tableIn (pc := 1) (o := 116) C 117 ⟨by (first | assumption | omega | (unfold rg; omega)), by (first | assumption | omega | (unfold rg; omega))⟩ (by (first | assumption | omega | (unfold rg; omega))) (by (first | assumption | omega | (unfold rg; omega))) (by rw [h1_8]; rfl) (by decide) dX7_tellsCount_1 ?_
    refine v_aload_n (pc := 117) C 0 rfl rfl dX7_tellsCount_117 ?_
    refine v_iconst (pc := 118) C dX7_tellsCount_118 ?_
    refine v_calliV (pc := 119) C cw_RX7_160 rcv_14 (ct_X7_sum l L g 5 (by first | assumption | omega | (unfold rg; omega))) ⟨Nat.le_of_ble_eq_true rfl, Nat.le_of_ble_eq_true rfl⟩ rfl (Nat.le_of_ble_eq_true rfl) ⟨Nat.le_of_ble_eq_true rfl, Nat.le_of_ble_eq_true rfl⟩ rfl dX7_tellsCount_119 (fun r9 u9 hP_3 => ?_)
    obtain ⟨hP_3, hP_3b⟩ := hP_3
    rw [hP_3, hP_3b]
    clear hP_3 hP_3b r9 u9
    exact v_iret (pc := 122) C hr hlk (⟨congrArg iI (by unfold mCt; simp only [*]; first | rfl | decide | (simp; done) | (rw [if_neg (by omega)]; rfl) | (simp [sumM]; done) | (repeat rw [if_neg (by omega)])), rfl⟩) dX7_tellsCount_122
  by_cases h1_9 : w = 9
  · skip
    refine v_tableIn (pc := 1) (o := 122) C 123 ⟨by (first | assumption | omega | (unfold rg; omega)), by (first | assumption | omega | (unfold rg; omega))⟩ (by (first | assumption | omega | (unfold rg; omega))) (by (first | assumption | omega | (unfold rg; omega))) (by rw [h1_9]; rfl) (by decide) dX7_tellsCount_1 ?_
    refine v_aload_n (pc := 123) C 0 rfl rfl dX7_tellsCount_123 ?_
    refine v_iconst (pc := 124) C dX7_tellsCount_124 ?_
    refine v_calliV (pc := 125) C cw_RX7_160 rcv_14 (ct_X7_sum l L g 1 (by first | assumption | omega | (unfold rg; omega))) ⟨Nat.le_of_ble_eq_true rfl, Nat.le_of_ble_eq_true rfl⟩ rfl (Nat.le_of_ble_eq_true rfl) ⟨Nat.le_of_ble_eq_true rfl, Nat.le_of_ble_eq_true rfl⟩ rfl dX7_tellsCount_125 (fun r9 u9 hP_4 => ?_)
    obtain ⟨hP_4, hP_4b⟩ := hP_4
    rw [hP_4, hP_4b]
    clear hP_4 hP_4b r9 u9
    exact v_iret (pc := 128) C hr hlk (⟨congrArg iI (by unfold mCt; simp only [*]; first | rfl | decide | (simp; done) | (rw [if_neg (by omega)]; rfl) | (simp [sumM]; done) | (repeat rw [if_neg (by omega)])), rfl⟩) dX7_tellsCount_128
  by_cases h1_10 : w = 10
  · skip
    refine v_tableIn (pc := 1) (o := 128) C 129 ⟨by (first | assumption | omega | (unfold rg; omega)), by (first | assumption | omega | (unfold rg; omega))⟩ (by (first | assumption | omega | (unfold rg; omega))) (by (first | assumption | omega | (unfold rg; omega))) (by rw [h1_10]; rfl) (by decide) dX7_tellsCount_1 ?_
    refine v_aload_n (pc := 129) C 0 rfl rfl dX7_tellsCount_129 ?_
    refine gt_14_1 (pc := 130) C u_4_4 dX7_tellsCount_130 ?_
    refine v_bipush (pc := 133) C rfl dX7_tellsCount_133 ?_
    refine al_15 (pc := 135) C ⟨by (first | assumption | omega | (unfold rg; omega)), by (first | assumption | omega | (unfold rg; omega))⟩ dX7_tellsCount_135 (g 15 0 0 7) (rfl) ?_
    exact v_iret (pc := 136) C hr hlk (⟨congrArg iI (by unfold mCt; simp only [*]; first | rfl | decide | (simp; done) | (rw [if_neg (by omega)]; rfl) | (simp [sumM]; done) | (repeat rw [if_neg (by omega)])), rfl⟩) dX7_tellsCount_136
  refine v_tableOut (pc := 1) C 137 ⟨by (first | assumption | omega | (unfold rg; omega)), by (first | assumption | omega | (unfold rg; omega))⟩ (by (first | assumption | omega | (unfold rg; omega))) (by decide) dX7_tellsCount_1 ?_
  refine v_aload_n (pc := 137) C 0 rfl rfl dX7_tellsCount_137 ?_
  refine gt_14_3 (pc := 138) C u_9_1 dX7_tellsCount_138 (g 14 0 0 3) (rfl) ?_
  exact v_iret (pc := 141) C hr hlk (⟨congrArg iI (by unfold mCt; simp only [*]; first | rfl | decide | (simp; done) | (rw [if_neg (by omega)]; rfl) | (simp [sumM]; done) | (repeat rw [if_neg (by omega)])), rfl⟩) dX7_tellsCount_141
set_option maxHeartbeats 4000000 in
set_option maxRecDepth 100000 in
theorem ct_X7_delayOf (l : Launch) (L : Lay) (g : St) (d p w : Int) (hm : wm (g 15 0 0) d) (hp : 0 ≤ p ∧ p < 4) (hw : 0 ≤ w ∧ w ≤ 1) : Met l yX7_delayOf (.code yX7_delayOf cX7_delayOf 3 (some .int) :: wsL_law) { frames := 1, cells := 0, slots := 0, locals := 24 } (va_Pc [.ref (adr L 14 0 0), .int (iI p), .int (iI w)] (HS L g)) (va_Qi (fun (r9 : Int32) (u9 : St) => r9 = iI (mD1 g p w) ∧ u9 = g) (fun u t => HS L u t) (Af L)) 0 0 (Af L) := by
  refine ct_mk (by decide +kernel) (Nat.le_of_ble_eq_true rfl) ?_
  intro pp ee ss mm bel mth cx C hr hlk
  show V pp l ee { frames := 1, cells := 0, slots := 0, locals := 24 } ss mm ([.ref (adr L 14 0 0), .int (iI p), .int (iI w)]).toArray bel mth cx 3 L (HH L g) 0 0 _ 0 [(0, .ref (adr L 14 0 0)), (1, .int (iI p)), (2, .int (iI w))] []
  obtain ⟨mS0, mS1, mS2, mB0, mB1, mB2, mCl, mN, mPl, mEc⟩ := id hm
  have hpl := mPl p hp.1 hp.2
  refine v_aload_n (pc := 0) C 0 rfl rfl dX7_delayOf_0 ?_
  refine v_aload_n (pc := 1) C 0 rfl rfl dX7_delayOf_1 ?_
  refine v_iload_n (pc := 2) C 1 rfl rfl dX7_delayOf_2 ?_
  refine v_iconst (pc := 3) C dX7_delayOf_3 ?_
  refine v_calliV (pc := 4) C cw_RX7_33 rcv_14 (ct_X7_ofPlayer l L g p 0 (by first | assumption | omega | (unfold rg; omega)) (by first | assumption | omega | (unfold rg; omega))) ⟨Nat.le_of_ble_eq_true rfl, Nat.le_of_ble_eq_true rfl⟩ rfl (Nat.le_of_ble_eq_true rfl) ⟨Nat.le_of_ble_eq_true rfl, Nat.le_of_ble_eq_true rfl⟩ rfl dX7_delayOf_4 (fun r9 u9 hP_1 => ?_)
  obtain ⟨hP_1, hP_1b⟩ := hP_1
  rw [hP_1, hP_1b]
  clear hP_1 hP_1b r9 u9
  refine v_iload_n (pc := 7) C 2 rfl rfl dX7_delayOf_7 ?_
  refine v_calliV (pc := 8) C cw_RX7_57 rcv_14 (ct_X7_delay l L g (g 15 0 0 (10 + 6 * p + 0)) w (by first | assumption | omega | (unfold rg; omega)) (by first | assumption | omega | (unfold rg; omega)) (by first | assumption | omega | (unfold rg; omega)) (by first | assumption | omega | (unfold rg; omega)) (by first | assumption | omega | (unfold rg; omega))) ⟨Nat.le_of_ble_eq_true rfl, Nat.le_of_ble_eq_true rfl⟩ rfl (Nat.le_of_ble_eq_true rfl) ⟨Nat.le_of_ble_eq_true rfl, Nat.le_of_ble_eq_true rfl⟩ rfl dX7_delayOf_8 (fun r9 u9 hP_2 => ?_)
  obtain ⟨hP_2, hP_2b⟩ := hP_2
  rw [hP_2, hP_2b]
  clear hP_2 hP_2b r9 u9
  exact v_iret (pc := 11) C hr hlk (⟨congrArg iI (by rfl), rfl⟩) dX7_delayOf_11
set_option maxHeartbeats 4000000 in
set_option maxRecDepth 100000 in
theorem ct_X7_isClash (l : Launch) (L : Lay) (g : St) (d p w t : Int) (hm : wm (g 15 0 0) d) (hd : 0 ≤ d ∧ d ≤ 1) (hp : 0 ≤ p ∧ p < 4) (hw : 0 ≤ w ∧ w ≤ 1) (ht : 0 ≤ t ∧ t ≤ 60) : Met l yX7_isClash (.code yX7_isClash cX7_isClash 6 (some .boolean) :: wsL_law) { frames := 2, cells := 0, slots := 0, locals := 46 } (va_Pc [.ref (adr L 14 0 0), .int (iI p), .int (iI w), .int (iI t)] (HS L g)) (va_Qi (fun (r9 : Int32) (u9 : St) => r9 = iI (if mIs g p w t then 1 else 0) ∧ u9 = g) (fun u t => HS L u t) (Af L)) 0 0 (Af L) := by
  refine ct_mk (by decide +kernel) (Nat.le_of_ble_eq_true rfl) ?_
  intro pp ee ss mm bel mth cx C hr hlk
  show V pp l ee { frames := 2, cells := 0, slots := 0, locals := 46 } ss mm ([.ref (adr L 14 0 0), .int (iI p), .int (iI w), .int (iI t)]).toArray bel mth cx 6 L (HH L g) 0 0 _ 0 [(0, .ref (adr L 14 0 0)), (1, .int (iI p)), (2, .int (iI w)), (3, .int (iI t))] []
  obtain ⟨mS0, mS1, mS2, mB0, mB1, mB2, mCl, mN, mPl, mEc⟩ := id hm
  have hpl := mPl p hp.1 hp.2
  have ht0 : 1 ≤ mD1 g p 0 ∧ mD1 g p 0 ≤ 100 := mDl_in hm hpl
  have ht1 : 1 ≤ mD1 g p 1 ∧ mD1 g p 1 ≤ 100 := mDl_in hm hpl
  have htw : 1 ≤ mD1 g p w ∧ mD1 g p w ≤ 100 := mDl_in hm hpl
  have hco := mCo_in g (g 15 0 0 (10 + 6 * p + 0)) (g 15 0 0 3 + (t + mD1 g p w))
  refine v_iload_n (pc := 0) C 3 rfl rfl dX7_isClash_0 ?_
  refine v_aload_n (pc := 1) C 0 rfl rfl dX7_isClash_1 ?_
  refine v_iload_n (pc := 2) C 1 rfl rfl dX7_isClash_2 ?_
  refine v_iload_n (pc := 3) C 2 rfl rfl dX7_isClash_3 ?_
  refine v_calliV (pc := 4) C cw_RX7_172 rcv_14 (ct_X7_delayOf l L g d p w (by first | assumption | omega | (unfold rg; omega)) (by first | assumption | omega | (unfold rg; omega)) (by first | assumption | omega | (unfold rg; omega))) ⟨Nat.le_of_ble_eq_true rfl, Nat.le_of_ble_eq_true rfl⟩ rfl (Nat.le_of_ble_eq_true rfl) ⟨Nat.le_of_ble_eq_true rfl, Nat.le_of_ble_eq_true rfl⟩ rfl dX7_isClash_4 (fun r9 u9 hP_1 => ?_)
  obtain ⟨hP_1, hP_1b⟩ := hP_1
  rw [hP_1, hP_1b]
  clear hP_1 hP_1b r9 u9
  refine v_iadd (pc := 7) C dX7_isClash_7 ?_
  refine v_istore (pc := 8) C [(4, .int (iI (t + (mD1 g p w)))), (0, .ref (adr L 14 0 0)), (1, .int (iI p)), (2, .int (iI w)), (3, .int (iI t))] (by decide) rfl dX7_isClash_8 ?_
  refine v_aload_n (pc := 10) C 1 rfl rfl dX7_isClash_10 ?_
  refine v_iload_n (pc := 11) C 2 rfl rfl dX7_isClash_11 ?_
  refine v_iconst (pc := 12) C dX7_isClash_12 ?_
  refine v_calliV (pc := 13) C cw_RX7_172 rcv_14 (ct_X7_delayOf l L g d p 0 (by first | assumption | omega | (unfold rg; omega)) (by first | assumption | omega | (unfold rg; omega)) (by first | assumption | omega | (unfold rg; omega))) ⟨Nat.le_of_ble_eq_true rfl, Nat.le_of_ble_eq_true rfl⟩ rfl (Nat.le_of_ble_eq_true rfl) ⟨Nat.le_of_ble_eq_true rfl, Nat.le_of_ble_eq_true rfl⟩ rfl dX7_isClash_13 (fun r9 u9 hP_2 => ?_)
  obtain ⟨hP_2, hP_2b⟩ := hP_2
  rw [hP_2, hP_2b]
  clear hP_2 hP_2b r9 u9
  refine v_aload_n (pc := 16) C 1 rfl rfl dX7_isClash_16 ?_
  refine v_iload_n (pc := 17) C 2 rfl rfl dX7_isClash_17 ?_
  refine v_iconst (pc := 18) C dX7_isClash_18 ?_
  refine v_calliV (pc := 19) C cw_RX7_172 rcv_14 (ct_X7_delayOf l L g d p 1 (by first | assumption | omega | (unfold rg; omega)) (by first | assumption | omega | (unfold rg; omega)) (by first | assumption | omega | (unfold rg; omega))) ⟨Nat.le_of_ble_eq_true rfl, Nat.le_of_ble_eq_true rfl⟩ rfl (Nat.le_of_ble_eq_true rfl) ⟨Nat.le_of_ble_eq_true rfl, Nat.le_of_ble_eq_true rfl⟩ rfl dX7_isClash_19 (fun r9 u9 hP_3 => ?_)
  obtain ⟨hP_3, hP_3b⟩ := hP_3
  rw [hP_3, hP_3b]
  clear hP_3 hP_3b r9 u9
  refine v_icmp_ne (pc := 22) C 29 ⟨by (first | assumption | omega | (unfold rg; omega)), by (first | assumption | omega | (unfold rg; omega))⟩ ⟨by (first | assumption | omega | (unfold rg; omega)), by (first | assumption | omega | (unfold rg; omega))⟩ (by decide) dX7_isClash_22 (fun h22 => ?_) (fun h22 => ?_)
  · skip
    refine v_iconst (pc := 29) C dX7_isClash_29 ?_
    refine v_istore (pc := 30) C [(5, .int (iI 0)), (4, .int (iI (t + (mD1 g p w)))), (0, .ref (adr L 14 0 0)), (1, .int (iI p)), (2, .int (iI w)), (3, .int (iI t))] (by decide) rfl dX7_isClash_30 ?_
    refine v_iload (pc := 32) C 0 rfl dX7_isClash_32 ?_
    refine v_if_ne (pc := 34) C 59 ⟨by (first | assumption | omega | (unfold rg; omega)), by (first | assumption | omega | (unfold rg; omega))⟩ (by decide) dX7_isClash_34 (fun h34 => ?_) (fun h34 => ?_)
    · skip
      exfalso; omega
    · skip
      refine v_aload_n (pc := 37) C 2 rfl rfl dX7_isClash_37 ?_
      refine v_aload_n (pc := 38) C 2 rfl rfl dX7_isClash_38 ?_
      refine v_iload_n (pc := 39) C 3 rfl rfl dX7_isClash_39 ?_
      refine v_iconst (pc := 40) C dX7_isClash_40 ?_
      refine v_calliV (pc := 41) C cw_RX7_33 rcv_14 (ct_X7_ofPlayer l L g p 0 (by first | assumption | omega | (unfold rg; omega)) (by first | assumption | omega | (unfold rg; omega))) ⟨Nat.le_of_ble_eq_true rfl, Nat.le_of_ble_eq_true rfl⟩ rfl (Nat.le_of_ble_eq_true rfl) ⟨Nat.le_of_ble_eq_true rfl, Nat.le_of_ble_eq_true rfl⟩ rfl dX7_isClash_41 (fun r9 u9 hP_4 => ?_)
      obtain ⟨hP_4, hP_4b⟩ := hP_4
      rw [hP_4, hP_4b]
      clear hP_4 hP_4b r9 u9
      refine v_aload_n (pc := 44) C 2 rfl rfl dX7_isClash_44 ?_
      refine gt_14_1 (pc := 45) C u_4_4 dX7_isClash_45 ?_
      refine v_iconst (pc := 48) C dX7_isClash_48 ?_
      refine al_15 (pc := 49) C ⟨by (first | assumption | omega | (unfold rg; omega)), by (first | assumption | omega | (unfold rg; omega))⟩ dX7_isClash_49 (g 15 0 0 3) (rfl) ?_
      refine v_iload (pc := 50) C 1 rfl dX7_isClash_50 ?_
      refine v_iadd (pc := 52) C dX7_isClash_52 ?_
      refine v_calliV (pc := 53) C cw_RX7_77 rcv_14 (ct_X7_comingTo l L g d (g 15 0 0 (10 + 6 * p + 0)) ((g 15 0 0 3) + (t + (mD1 g p w))) (by first | assumption | omega | (unfold rg; omega)) (by first | assumption | omega | (unfold rg; omega)) (by first | assumption | omega | (unfold rg; omega)) (by first | assumption | omega | (unfold rg; omega))) ⟨Nat.le_of_ble_eq_true rfl, Nat.le_of_ble_eq_true rfl⟩ rfl (Nat.le_of_ble_eq_true rfl) ⟨Nat.le_of_ble_eq_true rfl, Nat.le_of_ble_eq_true rfl⟩ rfl dX7_isClash_53 (fun r9 u9 hP_5 => ?_)
      obtain ⟨hP_5, hP_5b⟩ := hP_5
      rw [hP_5, hP_5b]
      clear hP_5 hP_5b r9 u9
      refine v_if_le (pc := 56) C 63 ⟨by (first | assumption | omega | (unfold rg; omega)), by (first | assumption | omega | (unfold rg; omega))⟩ (by decide) dX7_isClash_56 (fun h56 => ?_) (fun h56 => ?_)
      · skip
        refine v_iconst (pc := 63) C dX7_isClash_63 ?_
        exact v_zret (pc := 64) C hr hlk (by first | assumption | omega | (unfold rg; omega)) (⟨congrArg iI (by unfold mIs; first | rw [if_pos (by omega)] | rw [if_neg (by omega)]), rfl⟩) dX7_isClash_64
      · skip
        refine v_iconst (pc := 59) C dX7_isClash_59 ?_
        refine v_goto (pc := 60) C 64 (by decide) dX7_isClash_60 ?_
        exact v_zret (pc := 64) C hr hlk (by first | assumption | omega | (unfold rg; omega)) (⟨congrArg iI (by unfold mIs; first | rw [if_pos (by omega)] | rw [if_neg (by omega)]), rfl⟩) dX7_isClash_64
  · skip
    refine v_iconst (pc := 25) C dX7_isClash_25 ?_
    refine v_goto (pc := 26) C 30 (by decide) dX7_isClash_26 ?_
    refine v_istore (pc := 30) C [(5, .int (iI 1)), (4, .int (iI (t + (mD1 g p w)))), (0, .ref (adr L 14 0 0)), (1, .int (iI p)), (2, .int (iI w)), (3, .int (iI t))] (by decide) rfl dX7_isClash_30 ?_
    refine v_iload (pc := 32) C 0 rfl dX7_isClash_32 ?_
    refine v_if_ne (pc := 34) C 59 ⟨by (first | assumption | omega | (unfold rg; omega)), by (first | assumption | omega | (unfold rg; omega))⟩ (by decide) dX7_isClash_34 (fun h34 => ?_) (fun h34 => ?_)
    · skip
      refine v_iconst (pc := 59) C dX7_isClash_59 ?_
      refine v_goto (pc := 60) C 64 (by decide) dX7_isClash_60 ?_
      exact v_zret (pc := 64) C hr hlk (by first | assumption | omega | (unfold rg; omega)) (⟨congrArg iI (by unfold mIs; first | rw [if_pos (by omega)] | rw [if_neg (by omega)]), rfl⟩) dX7_isClash_64
    · skip
      exfalso; omega
set_option maxHeartbeats 4000000 in
set_option maxRecDepth 100000 in
theorem ct_X7_meetsBall (l : Launch) (L : Lay) (g : St) (d p w t : Int) (hm : wm (g 15 0 0) d) (hd : 0 ≤ d ∧ d ≤ 1) (hp : 0 ≤ p ∧ p < 4) (hw : 0 ≤ w ∧ w ≤ 1) (ht : 0 ≤ t ∧ t ≤ 60) : Met l yX7_meetsBall (.code yX7_meetsBall cX7_meetsBall 5 (some .boolean) :: wsL_law) { frames := 3, cells := 0, slots := 0, locals := 71 } (va_Pc [.ref (adr L 14 0 0), .int (iI p), .int (iI w), .int (iI t)] (HS L g)) (va_Qi (fun (r9 : Int32) (u9 : St) => r9 = iI (if mMe g p w t then 1 else 0) ∧ u9 = g) (fun u t => HS L u t) (Af L)) 0 0 (Af L) := by
  refine ct_mk (by decide +kernel) (Nat.le_of_ble_eq_true rfl) ?_
  intro pp ee ss mm bel mth cx C hr hlk
  show V pp l ee { frames := 3, cells := 0, slots := 0, locals := 71 } ss mm ([.ref (adr L 14 0 0), .int (iI p), .int (iI w), .int (iI t)]).toArray bel mth cx 5 L (HH L g) 0 0 _ 0 [(0, .ref (adr L 14 0 0)), (1, .int (iI p)), (2, .int (iI w)), (3, .int (iI t))] []
  obtain ⟨mS0, mS1, mS2, mB0, mB1, mB2, mCl, mN, mPl, mEc⟩ := id hm
  have hpl := mPl p hp.1 hp.2
  have ht0 : 1 ≤ mD1 g p 0 ∧ mD1 g p 0 ≤ 100 := mDl_in hm hpl
  have ht1 : 1 ≤ mD1 g p 1 ∧ mD1 g p 1 ≤ 100 := mDl_in hm hpl
  have htw : 1 ≤ mD1 g p w ∧ mD1 g p w ≤ 100 := mDl_in hm hpl
  have hml : 0 ≤ (t + mD1 g p w) * g 15 0 0 5 ∧ (t + mD1 g p w) * g 15 0 0 5 ≤ 160 * 9 := ⟨Int.mul_nonneg (by omega) (by omega), Int.mul_le_mul (by omega) (by omega) (by omega) (by omega)⟩
  have hun : 0 ≤ unf (g 15 0 0 4) 1 (g 15 0 0 6) ((t + mD1 g p w) * g 15 0 0 5) (g 15 0 0 0) ∧ unf (g 15 0 0 4) 1 (g 15 0 0 6) ((t + mD1 g p w) * g 15 0 0 5) (g 15 0 0 0) ≤ 100 := unf_in mS0
  refine v_iload_n (pc := 0) C 3 rfl rfl dX7_meetsBall_0 ?_
  refine v_aload_n (pc := 1) C 0 rfl rfl dX7_meetsBall_1 ?_
  refine v_iload_n (pc := 2) C 1 rfl rfl dX7_meetsBall_2 ?_
  refine v_iload_n (pc := 3) C 2 rfl rfl dX7_meetsBall_3 ?_
  refine v_calliV (pc := 4) C cw_RX7_172 rcv_14 (ct_X7_delayOf l L g d p w (by first | assumption | omega | (unfold rg; omega)) (by first | assumption | omega | (unfold rg; omega)) (by first | assumption | omega | (unfold rg; omega))) ⟨Nat.le_of_ble_eq_true rfl, Nat.le_of_ble_eq_true rfl⟩ rfl (Nat.le_of_ble_eq_true rfl) ⟨Nat.le_of_ble_eq_true rfl, Nat.le_of_ble_eq_true rfl⟩ rfl dX7_meetsBall_4 (fun r9 u9 hP_1 => ?_)
  obtain ⟨hP_1, hP_1b⟩ := hP_1
  rw [hP_1, hP_1b]
  clear hP_1 hP_1b r9 u9
  refine v_iadd (pc := 7) C dX7_meetsBall_7 ?_
  refine v_istore (pc := 8) C [(4, .int (iI (t + (mD1 g p w)))), (0, .ref (adr L 14 0 0)), (1, .int (iI p)), (2, .int (iI w)), (3, .int (iI t))] (by decide) rfl dX7_meetsBall_8 ?_
  refine v_aload_n (pc := 10) C 1 rfl rfl dX7_meetsBall_10 ?_
  refine v_iload_n (pc := 11) C 2 rfl rfl dX7_meetsBall_11 ?_
  refine v_iload_n (pc := 12) C 3 rfl rfl dX7_meetsBall_12 ?_
  refine v_iload_n (pc := 13) C 4 rfl rfl dX7_meetsBall_13 ?_
  refine v_calliV (pc := 14) C cw_RX7_175 rcv_14 (ct_X7_isClash l L g d p w t (by first | assumption | omega | (unfold rg; omega)) (by first | assumption | omega | (unfold rg; omega)) (by first | assumption | omega | (unfold rg; omega)) (by first | assumption | omega | (unfold rg; omega)) (by first | assumption | omega | (unfold rg; omega))) ⟨Nat.le_of_ble_eq_true rfl, Nat.le_of_ble_eq_true rfl⟩ rfl (Nat.le_of_ble_eq_true rfl) ⟨Nat.le_of_ble_eq_true rfl, Nat.le_of_ble_eq_true rfl⟩ rfl dX7_meetsBall_14 (fun r9 u9 hP_2 => ?_)
  obtain ⟨hP_2, hP_2b⟩ := hP_2
  rw [hP_2, hP_2b]
  clear hP_2 hP_2b r9 u9
  refine v_if_ne (pc := 17) C 46 z1_rg (by decide) dX7_meetsBall_17 (fun h17 => ?_) (fun h17 => ?_)
  · skip
    have h17c := z1_net h17
    refine v_iconst (pc := 46) C dX7_meetsBall_46 ?_
    exact v_zret (pc := 47) C hr hlk (by first | assumption | omega | (unfold rg; omega)) (⟨congrArg iI (by unfold mMe mUn; split; (rename_i hx; first | exact absurd hx.2 h39 | rfl | exact absurd h17c hx.1); (rename_i hx; first | rfl | exact absurd ⟨h17c, Decidable.byContradiction h39⟩ hx)), rfl⟩) dX7_meetsBall_47
  · skip
    have h17c := z1_nef h17
    refine v_aload_n (pc := 20) C 1 rfl rfl dX7_meetsBall_20 ?_
    refine v_iload (pc := 21) C 0 rfl dX7_meetsBall_21 ?_
    refine v_aload_n (pc := 23) C 1 rfl rfl dX7_meetsBall_23 ?_
    refine gt_14_1 (pc := 24) C u_4_4 dX7_meetsBall_24 ?_
    refine v_iconst (pc := 27) C dX7_meetsBall_27 ?_
    refine al_15 (pc := 28) C ⟨by (first | assumption | omega | (unfold rg; omega)), by (first | assumption | omega | (unfold rg; omega))⟩ dX7_meetsBall_28 (g 15 0 0 5) (rfl) ?_
    refine v_imul (pc := 29) C dX7_meetsBall_29 ?_
    refine v_calliV (pc := 30) C cw_RX7_166 rcv_14 (ct_X7_unfolded l L g ((t + (mD1 g p w)) * (g 15 0 0 5)) (by first | assumption | omega | (unfold rg; omega)) (by first | assumption | omega | (unfold rg; omega)) (by first | assumption | omega | (unfold rg; omega)) (by first | assumption | omega | (unfold rg; omega))) ⟨Nat.le_of_ble_eq_true rfl, Nat.le_of_ble_eq_true rfl⟩ rfl (Nat.le_of_ble_eq_true rfl) ⟨Nat.le_of_ble_eq_true rfl, Nat.le_of_ble_eq_true rfl⟩ rfl dX7_meetsBall_30 (fun r9 u9 hP_3 => ?_)
    obtain ⟨hP_3, hP_3b⟩ := hP_3
    rw [hP_3, hP_3b]
    clear hP_3 hP_3b r9 u9
    refine v_aload_n (pc := 33) C 1 rfl rfl dX7_meetsBall_33 ?_
    refine v_iload_n (pc := 34) C 2 rfl rfl dX7_meetsBall_34 ?_
    refine v_iconst (pc := 35) C dX7_meetsBall_35 ?_
    refine v_calliV (pc := 36) C cw_RX7_33 rcv_14 (ct_X7_ofPlayer l L g p 0 (by first | assumption | omega | (unfold rg; omega)) (by first | assumption | omega | (unfold rg; omega))) ⟨Nat.le_of_ble_eq_true rfl, Nat.le_of_ble_eq_true rfl⟩ rfl (Nat.le_of_ble_eq_true rfl) ⟨Nat.le_of_ble_eq_true rfl, Nat.le_of_ble_eq_true rfl⟩ rfl dX7_meetsBall_36 (fun r9 u9 hP_4 => ?_)
    obtain ⟨hP_4, hP_4b⟩ := hP_4
    rw [hP_4, hP_4b]
    clear hP_4 hP_4b r9 u9
    refine v_icmp_ne (pc := 39) C 46 ⟨by (first | assumption | omega | (unfold rg; omega)), by (first | assumption | omega | (unfold rg; omega))⟩ ⟨by (first | assumption | omega | (unfold rg; omega)), by (first | assumption | omega | (unfold rg; omega))⟩ (by decide) dX7_meetsBall_39 (fun h39 => ?_) (fun h39 => ?_)
    · skip
      refine v_iconst (pc := 46) C dX7_meetsBall_46 ?_
      exact v_zret (pc := 47) C hr hlk (by first | assumption | omega | (unfold rg; omega)) (⟨congrArg iI (by unfold mMe mUn; split; (rename_i hx; first | exact absurd hx.2 h39 | rfl | exact absurd h17c hx.1); (rename_i hx; first | rfl | exact absurd ⟨h17c, Decidable.byContradiction h39⟩ hx)), rfl⟩) dX7_meetsBall_47
    · skip
      refine v_iconst (pc := 42) C dX7_meetsBall_42 ?_
      refine v_goto (pc := 43) C 47 (by decide) dX7_meetsBall_43 ?_
      exact v_zret (pc := 47) C hr hlk (by first | assumption | omega | (unfold rg; omega)) (⟨congrArg iI (by unfold mMe mUn; split; (rename_i hx; first | exact absurd hx.2 h39 | rfl | exact absurd h17c hx.1); (rename_i hx; first | rfl | exact absurd ⟨h17c, Decidable.byContradiction h39⟩ hx)), rfl⟩) dX7_meetsBall_47
set_option maxHeartbeats 4000000 in
set_option maxRecDepth 100000 in
theorem ct_X7_bestWait (l : Launch) (L : Lay) (g : St) (d p : Int) (hm : wm (g 15 0 0) d) (hd : 0 ≤ d ∧ d ≤ 1) (hp : 0 ≤ p ∧ p < 4) : Met l yX7_bestWait (.code yX7_bestWait cX7_bestWait 3 (some .int) :: wsL_law) { frames := 4, cells := 0, slots := 0, locals := 95 } (va_Pc [.ref (adr L 14 0 0), .int (iI p)] (HS L g)) (va_Qi (fun (r9 : Int32) (u9 : St) => r9 = iI (mBw g p) ∧ u9 = g) (fun u t => HS L u t) (Af L)) 0 0 (Af L) := by
  refine ct_mk (by decide +kernel) (Nat.le_of_ble_eq_true rfl) ?_
  intro pp ee ss mm bel mth cx C hr hlk
  show V pp l ee { frames := 4, cells := 0, slots := 0, locals := 95 } ss mm ([.ref (adr L 14 0 0), .int (iI p)]).toArray bel mth cx 3 L (HH L g) 0 0 _ 0 [(0, .ref (adr L 14 0 0)), (1, .int (iI p))] []
  refine v_iconst (pc := 0) C dX7_bestWait_0 ?_
  refine v_istore_n (pc := 1) C [(2, .int (iI 0)), (0, .ref (adr L 14 0 0)), (1, .int (iI p))] rfl (by decide) rfl dX7_bestWait_1 ?_
  have lb2 : ∀ (n9 : Nat) (i : Int), (0 ≤ i ∧ i ≤ 61) → (frst (mMB g p) 61 0 = frst (mMB g p) (61 - i).toNat i) → (61 - i).toNat < n9 → V pp l ee { frames := 4, cells := 0, slots := 0, locals := 95 } ss mm ([.ref (adr L 14 0 0), .int (iI p)]).toArray bel mth cx 3 L (HH L g) 0 0 (MQ bel (va_Qi (fun (r9 : Int32) (u9 : St) => r9 = iI (mBw g p) ∧ u9 = g) (fun u t => HS L u t) (Af L)) ([.ref (adr L 14 0 0), .int (iI p)]).toArray ss 0 0 (Af L)) 2 [(0, .ref (adr L 14 0 0)), (1, .int (iI p)), (2, .int (iI i))] [] := by
    intro n9
    induction n9 with
    | zero => intro i hi hf hm9; exact absurd hm9 (Nat.not_lt_zero _)
    | succ n9 ih9 =>
      intro i hi hf hm9
      have ih2 := ih9
      refine v_iload_n (pc := 2) C 2 rfl rfl dX7_bestWait_2 ?_
      refine v_bipush (pc := 3) C rfl dX7_bestWait_3 ?_
      refine v_icmp_gt (pc := 5) C 36 ⟨by (first | assumption | omega | (unfold rg; omega)), by (first | assumption | omega | (unfold rg; omega))⟩ ⟨by (first | assumption | omega | (unfold rg; omega)), by (first | assumption | omega | (unfold rg; omega))⟩ (by decide) dX7_bestWait_5 (fun h5 => ?_) (fun h5 => ?_)
      · skip
        refine v_iconst (pc := 36) C dX7_bestWait_36 ?_
        exact v_iret (pc := 37) C hr hlk (⟨congrArg iI (by unfold mBw; rw [hf, show (61 - i).toNat = 0 by omega]; rfl), rfl⟩) dX7_bestWait_37
      · skip
        refine v_aload_n (pc := 8) C 0 rfl rfl dX7_bestWait_8 ?_
        refine v_iload_n (pc := 9) C 1 rfl rfl dX7_bestWait_9 ?_
        refine v_iconst (pc := 10) C dX7_bestWait_10 ?_
        refine v_iload_n (pc := 11) C 2 rfl rfl dX7_bestWait_11 ?_
        refine v_calliV (pc := 12) C cw_RX7_178 rcv_14 (ct_X7_meetsBall l L g d p 0 i (by first | assumption | omega | (unfold rg; omega)) (by first | assumption | omega | (unfold rg; omega)) (by first | assumption | omega | (unfold rg; omega)) (by first | assumption | omega | (unfold rg; omega)) (by first | assumption | omega | (unfold rg; omega))) ⟨Nat.le_of_ble_eq_true rfl, Nat.le_of_ble_eq_true rfl⟩ rfl (Nat.le_of_ble_eq_true rfl) ⟨Nat.le_of_ble_eq_true rfl, Nat.le_of_ble_eq_true rfl⟩ rfl dX7_bestWait_12 (fun r9 u9 hP_1 => ?_)
        obtain ⟨hP_1, hP_1b⟩ := hP_1
        rw [hP_1, hP_1b]
        clear hP_1 hP_1b r9 u9
        refine v_if_ne (pc := 15) C 28 z1_rg (by decide) dX7_bestWait_15 (fun h15 => ?_) (fun h15 => ?_)
        · skip
          have h15c := z1_net h15
          refine v_iload_n (pc := 28) C 2 rfl rfl dX7_bestWait_28 ?_
          exact v_iret (pc := 29) C hr hlk (⟨congrArg iI (by unfold mBw; rw [hf, show (61 - i).toNat = (60 - i).toNat + 1 by omega, frst, if_pos (by unfold mMB; rw [decide_eq_true_eq]; first | exact Or.inl (by assumption) | exact Or.inr (by assumption))]), rfl⟩) dX7_bestWait_29
        · skip
          have h15c := z1_nef h15
          refine v_aload_n (pc := 18) C 0 rfl rfl dX7_bestWait_18 ?_
          refine v_iload_n (pc := 19) C 1 rfl rfl dX7_bestWait_19 ?_
          refine v_iconst (pc := 20) C dX7_bestWait_20 ?_
          refine v_iload_n (pc := 21) C 2 rfl rfl dX7_bestWait_21 ?_
          refine v_calliV (pc := 22) C cw_RX7_178 rcv_14 (ct_X7_meetsBall l L g d p 1 i (by first | assumption | omega | (unfold rg; omega)) (by first | assumption | omega | (unfold rg; omega)) (by first | assumption | omega | (unfold rg; omega)) (by first | assumption | omega | (unfold rg; omega)) (by first | assumption | omega | (unfold rg; omega))) ⟨Nat.le_of_ble_eq_true rfl, Nat.le_of_ble_eq_true rfl⟩ rfl (Nat.le_of_ble_eq_true rfl) ⟨Nat.le_of_ble_eq_true rfl, Nat.le_of_ble_eq_true rfl⟩ rfl dX7_bestWait_22 (fun r9 u9 hP_2 => ?_)
          obtain ⟨hP_2, hP_2b⟩ := hP_2
          rw [hP_2, hP_2b]
          clear hP_2 hP_2b r9 u9
          refine v_if_eq (pc := 25) C 30 z1_rg (by decide) dX7_bestWait_25 (fun h25 => ?_) (fun h25 => ?_)
          · skip
            have h25c := z1_eqt h25
            refine v_iinc (pc := 30) C 2 [(2, .int (iI (i + 1))), (0, .ref (adr L 14 0 0)), (1, .int (iI p))] rfl (by decide) rfl dX7_bestWait_30 ?_
            refine v_goto (pc := 33) C 2 (by decide) dX7_bestWait_33 ?_
            refine v_lsub [1, 2, 0] rfl ?_
            exact ih2 (i + 1) (by omega) (by rw [hf, show (61 - i).toNat = (61 - (i + 1)).toNat + 1 by omega, frst, if_neg (by unfold mMB; rw [decide_eq_true_eq]; intro hx; rcases hx with hx | hx; exact absurd hx (by assumption); exact absurd hx (by assumption))]) (by omega)
          · skip
            have h25c := z1_eqf h25
            refine v_iload_n (pc := 28) C 2 rfl rfl dX7_bestWait_28 ?_
            exact v_iret (pc := 29) C hr hlk (⟨congrArg iI (by unfold mBw; rw [hf, show (61 - i).toNat = (60 - i).toNat + 1 by omega, frst, if_pos (by unfold mMB; rw [decide_eq_true_eq]; first | exact Or.inl (by assumption) | exact Or.inr (by assumption))]), rfl⟩) dX7_bestWait_29
  refine v_lsub [1, 2, 0] rfl ?_
  exact lb2 _ 0 (by omega) (by rfl) (Nat.lt_succ_self _)
set_option maxHeartbeats 4000000 in
set_option maxRecDepth 100000 in
theorem ct_X7_tellsQuiet (l : Launch) (L : Lay) (g : St) (d : Int) (hm : wm (g 15 0 0) d) (hd : 0 ≤ d ∧ d ≤ 1) : Met l yX7_tellsQuiet (.code yX7_tellsQuiet cX7_tellsQuiet 3 (some .int) :: wsL_law) { frames := 1, cells := 0, slots := 0, locals := 22 } (va_Pc [.ref (adr L 14 0 0)] (HS L g)) (va_Qi (fun (r9 : Int32) (u9 : St) => r9 = iI (mQu g - g 15 0 0 3) ∧ u9 = g) (fun u t => HS L u t) (Af L)) 0 0 (Af L) := by
  refine ct_mk (by decide +kernel) (Nat.le_of_ble_eq_true rfl) ?_
  intro pp ee ss mm bel mth cx C hr hlk
  show V pp l ee { frames := 1, cells := 0, slots := 0, locals := 22 } ss mm ([.ref (adr L 14 0 0)]).toArray bel mth cx 3 L (HH L g) 0 0 _ 0 [(0, .ref (adr L 14 0 0))] []
  obtain ⟨mS0, mS1, mS2, mB0, mB1, mB2, mCl, mN, mPl, mEc⟩ := id hm
  refine v_aload_n (pc := 0) C 0 rfl rfl dX7_tellsQuiet_0 ?_
  refine gt_14_1 (pc := 1) C u_4_4 dX7_tellsQuiet_1 ?_
  refine v_iconst (pc := 4) C dX7_tellsQuiet_4 ?_
  refine al_15 (pc := 5) C ⟨by (first | assumption | omega | (unfold rg; omega)), by (first | assumption | omega | (unfold rg; omega))⟩ dX7_tellsQuiet_5 (g 15 0 0 3) (rfl) ?_
  refine v_istore_n (pc := 6) C [(1, .int (iI (g 15 0 0 3))), (0, .ref (adr L 14 0 0))] rfl (by decide) rfl dX7_tellsQuiet_6 ?_
  refine v_iconst (pc := 7) C dX7_tellsQuiet_7 ?_
  refine v_istore_n (pc := 8) C [(2, .int (iI 0)), (1, .int (iI (g 15 0 0 3))), (0, .ref (adr L 14 0 0))] rfl (by decide) rfl dX7_tellsQuiet_8 ?_
  have lb9 : ∀ (n9 : Nat) (i : Int) (q : Int), (0 ≤ i ∧ i ≤ g 15 0 0 9) → (q = mxN (fun i => g 15 0 0 (34 + 5 * i + 3)) i.toNat (g 15 0 0 3)) → (0 ≤ q ∧ q ≤ 200000) → (g 15 0 0 9 - i).toNat < n9 → V pp l ee { frames := 1, cells := 0, slots := 0, locals := 22 } ss mm ([.ref (adr L 14 0 0)]).toArray bel mth cx 3 L (HH L g) 0 0 (MQ bel (va_Qi (fun (r9 : Int32) (u9 : St) => r9 = iI (mQu g - g 15 0 0 3) ∧ u9 = g) (fun u t => HS L u t) (Af L)) ([.ref (adr L 14 0 0)]).toArray ss 0 0 (Af L)) 9 [(0, .ref (adr L 14 0 0)), (1, .int (iI q)), (2, .int (iI i))] [] := by
    intro n9
    induction n9 with
    | zero => intro i q hi hq hqq hm9; exact absurd hm9 (Nat.not_lt_zero _)
    | succ n9 ih9 =>
      intro i q hi hq hqq hm9
      have ih9 := ih9
      refine v_iload_n (pc := 9) C 2 rfl rfl dX7_tellsQuiet_9 ?_
      refine v_aload_n (pc := 10) C 0 rfl rfl dX7_tellsQuiet_10 ?_
      refine gt_14_1 (pc := 11) C u_4_4 dX7_tellsQuiet_11 ?_
      refine v_bipush (pc := 14) C rfl dX7_tellsQuiet_14 ?_
      refine al_15 (pc := 16) C ⟨by (first | assumption | omega | (unfold rg; omega)), by (first | assumption | omega | (unfold rg; omega))⟩ dX7_tellsQuiet_16 (g 15 0 0 9) (rfl) ?_
      refine v_icmp_ge (pc := 17) C 47 ⟨by (first | assumption | omega | (unfold rg; omega)), by (first | assumption | omega | (unfold rg; omega))⟩ ⟨by (first | assumption | omega | (unfold rg; omega)), by (first | assumption | omega | (unfold rg; omega))⟩ (by decide) dX7_tellsQuiet_17 (fun h17 => ?_) (fun h17 => ?_)
      · skip
        refine v_iload_n (pc := 47) C 1 rfl rfl dX7_tellsQuiet_47 ?_
        refine v_aload_n (pc := 48) C 0 rfl rfl dX7_tellsQuiet_48 ?_
        refine gt_14_1 (pc := 49) C u_4_4 dX7_tellsQuiet_49 ?_
        refine v_iconst (pc := 52) C dX7_tellsQuiet_52 ?_
        refine al_15 (pc := 53) C ⟨by (first | assumption | omega | (unfold rg; omega)), by (first | assumption | omega | (unfold rg; omega))⟩ dX7_tellsQuiet_53 (g 15 0 0 3) (rfl) ?_
        refine v_isub (pc := 54) C dX7_tellsQuiet_54 ?_
        exact v_iret (pc := 55) C hr hlk (⟨congrArg iI (by unfold mQu; rw [hq, show i = g 15 0 0 9 by omega]), rfl⟩) dX7_tellsQuiet_55
      · skip
        have he := mEc i (by omega) (by omega)
        unfold okM at he
        refine v_aload_n (pc := 20) C 0 rfl rfl dX7_tellsQuiet_20 ?_
        refine v_iload_n (pc := 21) C 2 rfl rfl dX7_tellsQuiet_21 ?_
        refine v_iconst (pc := 22) C dX7_tellsQuiet_22 ?_
        refine v_calliV (pc := 23) C cw_RX7_54 rcv_14 (ct_X7_ofEcho l L g i 3 (by first | assumption | omega | (unfold rg; omega)) (by first | assumption | omega | (unfold rg; omega))) ⟨Nat.le_of_ble_eq_true rfl, Nat.le_of_ble_eq_true rfl⟩ rfl (Nat.le_of_ble_eq_true rfl) ⟨Nat.le_of_ble_eq_true rfl, Nat.le_of_ble_eq_true rfl⟩ rfl dX7_tellsQuiet_23 (fun r9 u9 hP_1 => ?_)
        obtain ⟨hP_1, hP_1b⟩ := hP_1
        rw [hP_1, hP_1b]
        clear hP_1 hP_1b r9 u9
        refine v_iload_n (pc := 26) C 1 rfl rfl dX7_tellsQuiet_26 ?_
        refine v_icmp_le (pc := 27) C 39 ⟨by (first | assumption | omega | (unfold rg; omega)), by (first | assumption | omega | (unfold rg; omega))⟩ ⟨by (first | assumption | omega | (unfold rg; omega)), by (first | assumption | omega | (unfold rg; omega))⟩ (by decide) dX7_tellsQuiet_27 (fun h27 => ?_) (fun h27 => ?_)
        · skip
          refine v_iload_n (pc := 39) C 1 rfl rfl dX7_tellsQuiet_39 ?_
          refine v_istore_n (pc := 40) C [(1, .int (iI q)), (0, .ref (adr L 14 0 0)), (2, .int (iI i))] rfl (by decide) rfl dX7_tellsQuiet_40 ?_
          refine v_iinc (pc := 41) C 2 [(2, .int (iI (i + 1))), (1, .int (iI q)), (0, .ref (adr L 14 0 0))] rfl (by decide) rfl dX7_tellsQuiet_41 ?_
          refine v_goto (pc := 44) C 9 (by decide) dX7_tellsQuiet_44 ?_
          refine v_lsub [2, 1, 0] rfl ?_
          exact ih9 (i + 1) q (by omega) (by rw [mxN_s hi.1, ← hq]; omega) (by omega) (by omega)
        · skip
          refine v_aload_n (pc := 30) C 0 rfl rfl dX7_tellsQuiet_30 ?_
          refine v_iload_n (pc := 31) C 2 rfl rfl dX7_tellsQuiet_31 ?_
          refine v_iconst (pc := 32) C dX7_tellsQuiet_32 ?_
          refine v_calliV (pc := 33) C cw_RX7_54 rcv_14 (ct_X7_ofEcho l L g i 3 (by first | assumption | omega | (unfold rg; omega)) (by first | assumption | omega | (unfold rg; omega))) ⟨Nat.le_of_ble_eq_true rfl, Nat.le_of_ble_eq_true rfl⟩ rfl (Nat.le_of_ble_eq_true rfl) ⟨Nat.le_of_ble_eq_true rfl, Nat.le_of_ble_eq_true rfl⟩ rfl dX7_tellsQuiet_33 (fun r9 u9 hP_2 => ?_)
          obtain ⟨hP_2, hP_2b⟩ := hP_2
          rw [hP_2, hP_2b]
          clear hP_2 hP_2b r9 u9
          refine v_goto (pc := 36) C 40 (by decide) dX7_tellsQuiet_36 ?_
          refine v_istore_n (pc := 40) C [(1, .int (iI (g 15 0 0 (34 + 5 * i + 3)))), (0, .ref (adr L 14 0 0)), (2, .int (iI i))] rfl (by decide) rfl dX7_tellsQuiet_40 ?_
          refine v_iinc (pc := 41) C 2 [(2, .int (iI (i + 1))), (1, .int (iI (g 15 0 0 (34 + 5 * i + 3)))), (0, .ref (adr L 14 0 0))] rfl (by decide) rfl dX7_tellsQuiet_41 ?_
          refine v_goto (pc := 44) C 9 (by decide) dX7_tellsQuiet_44 ?_
          refine v_lsub [2, 1, 0] rfl ?_
          exact ih9 (i + 1) (g 15 0 0 (34 + 5 * i + 3)) (by omega) (by rw [mxN_s hi.1, ← hq]; omega) (by omega) (by omega)
  refine v_lsub [2, 1, 0] rfl ?_
  exact lb9 _ 0 (g 15 0 0 3) (by omega) (by rfl) (by omega) (Nat.lt_succ_self _)
set_option maxHeartbeats 4000000 in
set_option maxRecDepth 100000 in
theorem ct_X7_tellsBest (l : Launch) (L : Lay) (g : St) (hcm : ctM g) : Met l yX7_tellsBest (.code yX7_tellsBest cX7_tellsBest 5 (some .int) :: wsL_law) { frames := 1, cells := 0, slots := 0, locals := 22 } (va_Pc [.ref (adr L 14 0 0)] (HS L g)) (va_Qi (fun (r9 : Int32) (u9 : St) => r9 = iI (mBs g 4) ∧ u9 = g) (fun u t => HS L u t) (Af L)) 0 0 (Af L) := by
  refine ct_mk (by decide +kernel) (Nat.le_of_ble_eq_true rfl) ?_
  intro pp ee ss mm bel mth cx C hr hlk
  show V pp l ee { frames := 1, cells := 0, slots := 0, locals := 22 } ss mm ([.ref (adr L 14 0 0)]).toArray bel mth cx 5 L (HH L g) 0 0 _ 0 [(0, .ref (adr L 14 0 0))] []
  refine v_iconst (pc := 0) C dX7_tellsBest_0 ?_
  refine v_istore_n (pc := 1) C [(1, .int (iI 0)), (0, .ref (adr L 14 0 0))] rfl (by decide) rfl dX7_tellsBest_1 ?_
  refine v_iconst (pc := 2) C dX7_tellsBest_2 ?_
  refine v_istore_n (pc := 3) C [(2, .int (iI 1)), (1, .int (iI 0)), (0, .ref (adr L 14 0 0))] rfl (by decide) rfl dX7_tellsBest_3 ?_
  have lb4 : ∀ (n9 : Nat) (i : Int) (q : Int), (1 ≤ i ∧ i ≤ 4) → (q = mBs g i.toNat) → (0 ≤ q ∧ q < i) → (4 - i).toNat < n9 → V pp l ee { frames := 1, cells := 0, slots := 0, locals := 22 } ss mm ([.ref (adr L 14 0 0)]).toArray bel mth cx 5 L (HH L g) 0 0 (MQ bel (va_Qi (fun (r9 : Int32) (u9 : St) => r9 = iI (mBs g 4) ∧ u9 = g) (fun u t => HS L u t) (Af L)) ([.ref (adr L 14 0 0)]).toArray ss 0 0 (Af L)) 4 [(0, .ref (adr L 14 0 0)), (1, .int (iI q)), (2, .int (iI i))] [] := by
    intro n9
    induction n9 with
    | zero => intro i q hi hq hqq hm9; exact absurd hm9 (Nat.not_lt_zero _)
    | succ n9 ih9 =>
      intro i q hi hq hqq hm9
      have ih4 := ih9
      refine v_iload_n (pc := 4) C 2 rfl rfl dX7_tellsBest_4 ?_
      refine v_iconst (pc := 5) C dX7_tellsBest_5 ?_
      refine v_icmp_ge (pc := 6) C 70 ⟨by (first | assumption | omega | (unfold rg; omega)), by (first | assumption | omega | (unfold rg; omega))⟩ ⟨by (first | assumption | omega | (unfold rg; omega)), by (first | assumption | omega | (unfold rg; omega))⟩ (by decide) dX7_tellsBest_6 (fun h6 => ?_) (fun h6 => ?_)
      · skip
        refine v_iload_n (pc := 70) C 1 rfl rfl dX7_tellsBest_70 ?_
        exact v_iret (pc := 71) C hr hlk (⟨congrArg iI (by rw [hq, show i = 4 by omega]; rfl), rfl⟩) dX7_tellsBest_71
      · skip
        have c1 := hcm (10 + 6 * i + 1) (by omega) (by omega)
        have c2 := hcm (10 + 6 * i + 3) (by omega) (by omega)
        have c3 := hcm (10 + 6 * q + 1) (by omega) (by omega)
        have c4 := hcm (10 + 6 * q + 3) (by omega) (by omega)
        refine v_aload_n (pc := 9) C 0 rfl rfl dX7_tellsBest_9 ?_
        refine v_iload_n (pc := 10) C 2 rfl rfl dX7_tellsBest_10 ?_
        refine v_iconst (pc := 11) C dX7_tellsBest_11 ?_
        refine v_calliV (pc := 12) C cw_RX7_33 rcv_14 (ct_X7_ofPlayer l L g i 1 (by first | assumption | omega | (unfold rg; omega)) (by first | assumption | omega | (unfold rg; omega))) ⟨Nat.le_of_ble_eq_true rfl, Nat.le_of_ble_eq_true rfl⟩ rfl (Nat.le_of_ble_eq_true rfl) ⟨Nat.le_of_ble_eq_true rfl, Nat.le_of_ble_eq_true rfl⟩ rfl dX7_tellsBest_12 (fun r9 u9 hP_1 => ?_)
        obtain ⟨hP_1, hP_1b⟩ := hP_1
        rw [hP_1, hP_1b]
        clear hP_1 hP_1b r9 u9
        refine v_aload_n (pc := 15) C 0 rfl rfl dX7_tellsBest_15 ?_
        refine v_iload_n (pc := 16) C 1 rfl rfl dX7_tellsBest_16 ?_
        refine v_iconst (pc := 17) C dX7_tellsBest_17 ?_
        refine v_calliV (pc := 18) C cw_RX7_33 rcv_14 (ct_X7_ofPlayer l L g q 1 (by first | assumption | omega | (unfold rg; omega)) (by first | assumption | omega | (unfold rg; omega))) ⟨Nat.le_of_ble_eq_true rfl, Nat.le_of_ble_eq_true rfl⟩ rfl (Nat.le_of_ble_eq_true rfl) ⟨Nat.le_of_ble_eq_true rfl, Nat.le_of_ble_eq_true rfl⟩ rfl dX7_tellsBest_18 (fun r9 u9 hP_2 => ?_)
        obtain ⟨hP_2, hP_2b⟩ := hP_2
        rw [hP_2, hP_2b]
        clear hP_2 hP_2b r9 u9
        refine v_isub (pc := 21) C dX7_tellsBest_21 ?_
        refine v_istore_n (pc := 22) C [(3, .int (iI ((g 15 0 0 (10 + 6 * i + 1)) - (g 15 0 0 (10 + 6 * q + 1))))), (0, .ref (adr L 14 0 0)), (1, .int (iI q)), (2, .int (iI i))] rfl (by decide) rfl dX7_tellsBest_22 ?_
        refine v_iload_n (pc := 23) C 0 rfl rfl dX7_tellsBest_23 ?_
        refine v_if_gt (pc := 24) C 46 ⟨by (first | assumption | omega | (unfold rg; omega)), by (first | assumption | omega | (unfold rg; omega))⟩ (by decide) dX7_tellsBest_24 (fun h24 => ?_) (fun h24 => ?_)
        · skip
          refine v_iconst (pc := 46) C dX7_tellsBest_46 ?_
          refine v_goto (pc := 47) C 51 (by decide) dX7_tellsBest_47 ?_
          refine v_istore (pc := 51) C [(4, .int (iI 1)), (3, .int (iI ((g 15 0 0 (10 + 6 * i + 1)) - (g 15 0 0 (10 + 6 * q + 1))))), (0, .ref (adr L 14 0 0)), (1, .int (iI q)), (2, .int (iI i))] (by decide) rfl dX7_tellsBest_51 ?_
          refine v_iload (pc := 53) C 0 rfl dX7_tellsBest_53 ?_
          refine v_if_eq (pc := 55) C 62 ⟨by (first | assumption | omega | (unfold rg; omega)), by (first | assumption | omega | (unfold rg; omega))⟩ (by decide) dX7_tellsBest_55 (fun h55 => ?_) (fun h55 => ?_)
          · skip
            exfalso; omega
          · skip
            refine v_iload_n (pc := 58) C 4 rfl rfl dX7_tellsBest_58 ?_
            refine v_goto (pc := 59) C 63 (by decide) dX7_tellsBest_59 ?_
            refine v_istore_n (pc := 63) C [(1, .int (iI i)), (4, .int (iI 1)), (3, .int (iI ((g 15 0 0 (10 + 6 * i + 1)) - (g 15 0 0 (10 + 6 * q + 1))))), (0, .ref (adr L 14 0 0)), (2, .int (iI i))] rfl (by decide) rfl dX7_tellsBest_63 ?_
            refine v_iinc (pc := 64) C 4 [(2, .int (iI (i + 1))), (1, .int (iI i)), (4, .int (iI 1)), (3, .int (iI ((g 15 0 0 (10 + 6 * i + 1)) - (g 15 0 0 (10 + 6 * q + 1))))), (0, .ref (adr L 14 0 0))] rfl (by decide) rfl dX7_tellsBest_64 ?_
            refine v_goto (pc := 67) C 4 (by decide) dX7_tellsBest_67 ?_
            refine v_lsub [4, 1, 0] rfl ?_
            exact ih4 (i + 1) i (by omega) (by rw [mBs_s g hi.1, ← hq]; unfold mBe; first | rw [if_pos (by omega)] | rw [if_neg (by omega)]) (by omega) (by omega)
        · skip
          refine v_iload_n (pc := 27) C 0 rfl rfl dX7_tellsBest_27 ?_
          refine v_if_ne (pc := 28) C 50 ⟨by (first | assumption | omega | (unfold rg; omega)), by (first | assumption | omega | (unfold rg; omega))⟩ (by decide) dX7_tellsBest_28 (fun h28 => ?_) (fun h28 => ?_)
          · skip
            refine v_iconst (pc := 50) C dX7_tellsBest_50 ?_
            refine v_istore (pc := 51) C [(4, .int (iI 0)), (3, .int (iI ((g 15 0 0 (10 + 6 * i + 1)) - (g 15 0 0 (10 + 6 * q + 1))))), (0, .ref (adr L 14 0 0)), (1, .int (iI q)), (2, .int (iI i))] (by decide) rfl dX7_tellsBest_51 ?_
            refine v_iload (pc := 53) C 0 rfl dX7_tellsBest_53 ?_
            refine v_if_eq (pc := 55) C 62 ⟨by (first | assumption | omega | (unfold rg; omega)), by (first | assumption | omega | (unfold rg; omega))⟩ (by decide) dX7_tellsBest_55 (fun h55 => ?_) (fun h55 => ?_)
            · skip
              refine v_iload_n (pc := 62) C 3 rfl rfl dX7_tellsBest_62 ?_
              refine v_istore_n (pc := 63) C [(1, .int (iI q)), (4, .int (iI 0)), (3, .int (iI ((g 15 0 0 (10 + 6 * i + 1)) - (g 15 0 0 (10 + 6 * q + 1))))), (0, .ref (adr L 14 0 0)), (2, .int (iI i))] rfl (by decide) rfl dX7_tellsBest_63 ?_
              refine v_iinc (pc := 64) C 4 [(2, .int (iI (i + 1))), (1, .int (iI q)), (4, .int (iI 0)), (3, .int (iI ((g 15 0 0 (10 + 6 * i + 1)) - (g 15 0 0 (10 + 6 * q + 1))))), (0, .ref (adr L 14 0 0))] rfl (by decide) rfl dX7_tellsBest_64 ?_
              refine v_goto (pc := 67) C 4 (by decide) dX7_tellsBest_67 ?_
              refine v_lsub [4, 1, 0] rfl ?_
              exact ih4 (i + 1) q (by omega) (by rw [mBs_s g hi.1, ← hq]; unfold mBe; first | rw [if_pos (by omega)] | rw [if_neg (by omega)]) (by omega) (by omega)
            · skip
              exfalso; omega
          · skip
            refine v_aload_n (pc := 31) C 1 rfl rfl dX7_tellsBest_31 ?_
            refine v_iload_n (pc := 32) C 3 rfl rfl dX7_tellsBest_32 ?_
            refine v_iconst (pc := 33) C dX7_tellsBest_33 ?_
            refine v_calliV (pc := 34) C cw_RX7_33 rcv_14 (ct_X7_ofPlayer l L g i 3 (by first | assumption | omega | (unfold rg; omega)) (by first | assumption | omega | (unfold rg; omega))) ⟨Nat.le_of_ble_eq_true rfl, Nat.le_of_ble_eq_true rfl⟩ rfl (Nat.le_of_ble_eq_true rfl) ⟨Nat.le_of_ble_eq_true rfl, Nat.le_of_ble_eq_true rfl⟩ rfl dX7_tellsBest_34 (fun r9 u9 hP_3 => ?_)
            obtain ⟨hP_3, hP_3b⟩ := hP_3
            rw [hP_3, hP_3b]
            clear hP_3 hP_3b r9 u9
            refine v_aload_n (pc := 37) C 1 rfl rfl dX7_tellsBest_37 ?_
            refine v_iload_n (pc := 38) C 2 rfl rfl dX7_tellsBest_38 ?_
            refine v_iconst (pc := 39) C dX7_tellsBest_39 ?_
            refine v_calliV (pc := 40) C cw_RX7_33 rcv_14 (ct_X7_ofPlayer l L g q 3 (by first | assumption | omega | (unfold rg; omega)) (by first | assumption | omega | (unfold rg; omega))) ⟨Nat.le_of_ble_eq_true rfl, Nat.le_of_ble_eq_true rfl⟩ rfl (Nat.le_of_ble_eq_true rfl) ⟨Nat.le_of_ble_eq_true rfl, Nat.le_of_ble_eq_true rfl⟩ rfl dX7_tellsBest_40 (fun r9 u9 hP_4 => ?_)
            obtain ⟨hP_4, hP_4b⟩ := hP_4
            rw [hP_4, hP_4b]
            clear hP_4 hP_4b r9 u9
            refine v_icmp_le (pc := 43) C 50 ⟨by (first | assumption | omega | (unfold rg; omega)), by (first | assumption | omega | (unfold rg; omega))⟩ ⟨by (first | assumption | omega | (unfold rg; omega)), by (first | assumption | omega | (unfold rg; omega))⟩ (by decide) dX7_tellsBest_43 (fun h43 => ?_) (fun h43 => ?_)
            · skip
              refine v_iconst (pc := 50) C dX7_tellsBest_50 ?_
              refine v_istore (pc := 51) C [(4, .int (iI 0)), (3, .int (iI ((g 15 0 0 (10 + 6 * i + 1)) - (g 15 0 0 (10 + 6 * q + 1))))), (0, .ref (adr L 14 0 0)), (1, .int (iI q)), (2, .int (iI i))] (by decide) rfl dX7_tellsBest_51 ?_
              refine v_iload (pc := 53) C 0 rfl dX7_tellsBest_53 ?_
              refine v_if_eq (pc := 55) C 62 ⟨by (first | assumption | omega | (unfold rg; omega)), by (first | assumption | omega | (unfold rg; omega))⟩ (by decide) dX7_tellsBest_55 (fun h55 => ?_) (fun h55 => ?_)
              · skip
                refine v_iload_n (pc := 62) C 3 rfl rfl dX7_tellsBest_62 ?_
                refine v_istore_n (pc := 63) C [(1, .int (iI q)), (4, .int (iI 0)), (3, .int (iI ((g 15 0 0 (10 + 6 * i + 1)) - (g 15 0 0 (10 + 6 * q + 1))))), (0, .ref (adr L 14 0 0)), (2, .int (iI i))] rfl (by decide) rfl dX7_tellsBest_63 ?_
                refine v_iinc (pc := 64) C 4 [(2, .int (iI (i + 1))), (1, .int (iI q)), (4, .int (iI 0)), (3, .int (iI ((g 15 0 0 (10 + 6 * i + 1)) - (g 15 0 0 (10 + 6 * q + 1))))), (0, .ref (adr L 14 0 0))] rfl (by decide) rfl dX7_tellsBest_64 ?_
                refine v_goto (pc := 67) C 4 (by decide) dX7_tellsBest_67 ?_
                refine v_lsub [4, 1, 0] rfl ?_
                exact ih4 (i + 1) q (by omega) (by rw [mBs_s g hi.1, ← hq]; unfold mBe; first | rw [if_pos (by omega)] | rw [if_neg (by omega)]) (by omega) (by omega)
              · skip
                exfalso; omega
            · skip
              refine v_iconst (pc := 46) C dX7_tellsBest_46 ?_
              refine v_goto (pc := 47) C 51 (by decide) dX7_tellsBest_47 ?_
              refine v_istore (pc := 51) C [(4, .int (iI 1)), (3, .int (iI ((g 15 0 0 (10 + 6 * i + 1)) - (g 15 0 0 (10 + 6 * q + 1))))), (0, .ref (adr L 14 0 0)), (1, .int (iI q)), (2, .int (iI i))] (by decide) rfl dX7_tellsBest_51 ?_
              refine v_iload (pc := 53) C 0 rfl dX7_tellsBest_53 ?_
              refine v_if_eq (pc := 55) C 62 ⟨by (first | assumption | omega | (unfold rg; omega)), by (first | assumption | omega | (unfold rg; omega))⟩ (by decide) dX7_tellsBest_55 (fun h55 => ?_) (fun h55 => ?_)
              · skip
                exfalso; omega
              · skip
                refine v_iload_n (pc := 58) C 4 rfl rfl dX7_tellsBest_58 ?_
                refine v_goto (pc := 59) C 63 (by decide) dX7_tellsBest_59 ?_
                refine v_istore_n (pc := 63) C [(1, .int (iI i)), (4, .int (iI 1)), (3, .int (iI ((g 15 0 0 (10 + 6 * i + 1)) - (g 15 0 0 (10 + 6 * q + 1))))), (0, .ref (adr L 14 0 0)), (2, .int (iI i))] rfl (by decide) rfl dX7_tellsBest_63 ?_
                refine v_iinc (pc := 64) C 4 [(2, .int (iI (i + 1))), (1, .int (iI i)), (4, .int (iI 1)), (3, .int (iI ((g 15 0 0 (10 + 6 * i + 1)) - (g 15 0 0 (10 + 6 * q + 1))))), (0, .ref (adr L 14 0 0))] rfl (by decide) rfl dX7_tellsBest_64 ?_
                refine v_goto (pc := 67) C 4 (by decide) dX7_tellsBest_67 ?_
                refine v_lsub [4, 1, 0] rfl ?_
                exact ih4 (i + 1) i (by omega) (by rw [mBs_s g hi.1, ← hq]; unfold mBe; first | rw [if_pos (by omega)] | rw [if_neg (by omega)]) (by omega) (by omega)
  refine v_lsub [2, 1, 0] rfl ?_
  exact lb4 _ 1 0 (by omega) (by rfl) (by omega) (Nat.lt_succ_self _)
set_option maxHeartbeats 4000000 in
set_option maxRecDepth 100000 in
theorem ct_X7_tellsBall (l : Launch) (L : Lay) (g : St) (d t w : Int) (hm : wm (g 15 0 0) d) (hd : 0 ≤ d ∧ d ≤ 1) (ht : 0 ≤ t ∧ t ≤ 100) (hw : 0 ≤ w ∧ w ≤ 2) : Met l yX7_tellsBall (.code yX7_tellsBall cX7_tellsBall 4 (some .int) :: wsL_law) { frames := 1, cells := 0, slots := 0, locals := 23 } (va_Pc [.ref (adr L 14 0 0), .int (iI t), .int (iI w)] (HS L g)) (va_Qi (fun (r9 : Int32) (u9 : St) => r9 = iI (mbA g t w) ∧ u9 = (mbM g t)) (fun u t => HS L u t) (Af L)) 0 0 (Af L) := by
  refine ct_mk (by decide +kernel) (Nat.le_of_ble_eq_true rfl) ?_
  intro pp ee ss mm bel mth cx C hr hlk
  show V pp l ee { frames := 1, cells := 0, slots := 0, locals := 23 } ss mm ([.ref (adr L 14 0 0), .int (iI t), .int (iI w)]).toArray bel mth cx 4 L (HH L g) 0 0 _ 0 [(0, .ref (adr L 14 0 0)), (1, .int (iI t)), (2, .int (iI w))] []
  obtain ⟨mS0, mS1, mS2, mB0, mB1, mB2, mCl, mN, mPl, mEc⟩ := id hm
  have hml : 0 ≤ t * g 15 0 0 5 ∧ t * g 15 0 0 5 ≤ 100 * 9 := ⟨Int.mul_nonneg (by omega) (by omega), Int.mul_le_mul (by omega) (by omega) (by omega) (by omega)⟩
  have hbi := mbM_in (t := t) hm
  have f15 := mbM_f g t (f := 15) (by decide)
  refine v_iload_n (pc := 0) C 1 rfl rfl dX7_tellsBall_0 ?_
  refine v_aload_n (pc := 1) C 0 rfl rfl dX7_tellsBall_1 ?_
  refine gt_14_1 (pc := 2) C u_4_4 dX7_tellsBall_2 ?_
  refine v_iconst (pc := 5) C dX7_tellsBall_5 ?_
  refine al_15 (pc := 6) C ⟨by (first | assumption | omega | (unfold rg; omega)), by (first | assumption | omega | (unfold rg; omega))⟩ dX7_tellsBall_6 (g 15 0 0 5) (rfl) ?_
  refine v_imul (pc := 7) C dX7_tellsBall_7 ?_
  refine v_istore_n (pc := 8) C [(3, .int (iI (t * (g 15 0 0 5)))), (0, .ref (adr L 14 0 0)), (1, .int (iI t)), (2, .int (iI w))] rfl (by decide) rfl dX7_tellsBall_8 ?_
  refine v_aload_n (pc := 9) C 1 rfl rfl dX7_tellsBall_9 ?_
  refine v_callvV (pc := 10) C cw_RX7_71 rcv_14 (ct_X7_takeBall l L g (by first | assumption | omega | (unfold rg; omega))) ⟨Nat.le_of_ble_eq_true rfl, Nat.le_of_ble_eq_true rfl⟩ rfl (Nat.le_of_ble_eq_true rfl) ⟨Nat.le_of_ble_eq_true rfl, Nat.le_of_ble_eq_true rfl⟩ rfl dX7_tellsBall_10 (fun u9 hP_1 => ?_)
  rw [hP_1]
  clear hP_1 u9
  refine v_st (g2 := mbT g) C (rfl) ?_
  refine v_aload_n (pc := 13) C 1 rfl rfl dX7_tellsBall_13 ?_
  refine v_iload_n (pc := 14) C 0 rfl rfl dX7_tellsBall_14 ?_
  refine v_callvV (pc := 15) C cw_RX7_74 rcv_14 (ct_X7_moveBall l L (mbT g) (t * (g 15 0 0 5)) (by first | assumption | omega | (unfold rg; omega)) (by exact mS0) (by exact mB0) (by exact mB2)) ⟨Nat.le_of_ble_eq_true rfl, Nat.le_of_ble_eq_true rfl⟩ rfl (Nat.le_of_ble_eq_true rfl) ⟨Nat.le_of_ble_eq_true rfl, Nat.le_of_ble_eq_true rfl⟩ rfl dX7_tellsBall_15 (fun u9 hP_2 => ?_)
  rw [hP_2]
  clear hP_2 u9
  refine v_st (g2 := mbM g t) C (rfl) ?_
  refine v_iload_n (pc := 18) C 3 rfl rfl dX7_tellsBall_18 ?_
  refine v_if_ne (pc := 19) C 29 ⟨by (first | assumption | omega | (unfold rg; omega)), by (first | assumption | omega | (unfold rg; omega))⟩ (by decide) dX7_tellsBall_19 (fun h19 => ?_) (fun h19 => ?_)
  · skip
    refine v_iload_n (pc := 29) C 3 rfl rfl dX7_tellsBall_29 ?_
    refine v_iconst (pc := 30) C dX7_tellsBall_30 ?_
    refine v_icmp_ne (pc := 31) C 42 ⟨by (first | assumption | omega | (unfold rg; omega)), by (first | assumption | omega | (unfold rg; omega))⟩ ⟨by (first | assumption | omega | (unfold rg; omega)), by (first | assumption | omega | (unfold rg; omega))⟩ (by decide) dX7_tellsBall_31 (fun h31 => ?_) (fun h31 => ?_)
    · skip
      refine v_aload_n (pc := 42) C 1 rfl rfl dX7_tellsBall_42 ?_
      refine gt_14_13 (pc := 43) C u_15_18 dX7_tellsBall_43 ((mbM g t) 14 0 0 13) (rfl) ?_
      refine v_if_eq (pc := 46) C 53 ⟨by (first | assumption | omega | (unfold rg; omega)), by (first | assumption | omega | (unfold rg; omega))⟩ (by decide) dX7_tellsBall_46 (fun h46 => ?_) (fun h46 => ?_)
      · skip
        refine v_iconst (pc := 53) C dX7_tellsBall_53 ?_
        exact v_iret (pc := 54) C hr hlk (⟨congrArg iI (by unfold mbA; first | rw [if_pos (by omega)] | rw [if_neg (by omega), if_pos (by omega)] | (rw [if_neg (by omega), if_neg (by omega)]; omega)), rfl⟩) dX7_tellsBall_54
      · skip
        refine v_iconst (pc := 49) C dX7_tellsBall_49 ?_
        refine v_goto (pc := 50) C 54 (by decide) dX7_tellsBall_50 ?_
        exact v_iret (pc := 54) C hr hlk (⟨congrArg iI (by unfold mbA; first | rw [if_pos (by omega)] | rw [if_neg (by omega), if_pos (by omega)] | (rw [if_neg (by omega), if_neg (by omega)]; omega)), rfl⟩) dX7_tellsBall_54
    · skip
      refine v_aload_n (pc := 34) C 1 rfl rfl dX7_tellsBall_34 ?_
      refine v_iload_n (pc := 35) C 0 rfl rfl dX7_tellsBall_35 ?_
      refine v_calliV (pc := 36) C cw_RX7_166 rcv_14 (ct_X7_unfolded l L (mbM g t) (t * (g 15 0 0 5)) (by first | assumption | omega | (unfold rg; omega)) (by rw [f15]; exact mS0) (by rw [f15]; exact mB0) (by rw [f15]; exact mB2)) ⟨Nat.le_of_ble_eq_true rfl, Nat.le_of_ble_eq_true rfl⟩ rfl (Nat.le_of_ble_eq_true rfl) ⟨Nat.le_of_ble_eq_true rfl, Nat.le_of_ble_eq_true rfl⟩ rfl dX7_tellsBall_36 (fun r9 u9 hP_3 => ?_)
      obtain ⟨hP_3, hP_3b⟩ := hP_3
      rw [hP_3, hP_3b]
      clear hP_3 hP_3b r9 u9
      refine v_topi (b := mUn g (t * g 15 0 0 5)) C (by rw [f15]) ?_
      refine v_goto (pc := 39) C 54 (by decide) dX7_tellsBall_39 ?_
      exact v_iret (pc := 54) C hr hlk (⟨congrArg iI (by unfold mbA; first | rw [if_pos (by omega)] | rw [if_neg (by omega), if_pos (by omega)] | (rw [if_neg (by omega), if_neg (by omega)]; omega)), rfl⟩) dX7_tellsBall_54
  · skip
    refine v_aload_n (pc := 22) C 1 rfl rfl dX7_tellsBall_22 ?_
    refine gt_14_12 (pc := 23) C u_15_17 dX7_tellsBall_23 ((mbM g t) 14 0 0 12) (rfl) ?_
    refine v_goto (pc := 26) C 54 (by decide) dX7_tellsBall_26 ?_
    exact v_iret (pc := 54) C hr hlk (⟨congrArg iI (by unfold mbA; first | rw [if_pos (by omega)] | rw [if_neg (by omega), if_pos (by omega)] | (rw [if_neg (by omega), if_neg (by omega)]; omega)), rfl⟩) dX7_tellsBall_54
set_option maxHeartbeats 4000000 in
set_option maxRecDepth 100000 in
theorem ct_X7_echoAt (l : Launch) (L : Lay) (g : St) (d r : Int) (hm : wm (g 15 0 0) d) (hd : 0 ≤ d ∧ d ≤ 1) (hrr : rg r) : Met l yX7_echoAt (.code yX7_echoAt cX7_echoAt 7 (some .int) :: wsL_law) { frames := 1, cells := 0, slots := 0, locals := 22 } (va_Pc [.ref (adr L 14 0 0), .int (iI r)] (HS L g)) (va_Qi (fun (r9 : Int32) (u9 : St) => r9 = iI (eaM g r (g 15 0 0 9).toNat) ∧ u9 = g) (fun u t => HS L u t) (Af L)) 0 0 (Af L) := by
  refine ct_mk (by decide +kernel) (Nat.le_of_ble_eq_true rfl) ?_
  intro pp ee ss mm bel mth cx C hr hlk
  show V pp l ee { frames := 1, cells := 0, slots := 0, locals := 22 } ss mm ([.ref (adr L 14 0 0), .int (iI r)]).toArray bel mth cx 7 L (HH L g) 0 0 _ 0 [(0, .ref (adr L 14 0 0)), (1, .int (iI r))] []
  obtain ⟨mS0, mS1, mS2, mB0, mB1, mB2, mCl, mN, mPl, mEc⟩ := id hm
  unfold rg at hrr
  refine v_iconst (pc := 0) C dX7_echoAt_0 ?_
  refine v_istore_n (pc := 1) C [(2, .int (iI (-1))), (0, .ref (adr L 14 0 0)), (1, .int (iI r))] rfl (by decide) rfl dX7_echoAt_1 ?_
  refine v_iconst (pc := 2) C dX7_echoAt_2 ?_
  refine v_istore_n (pc := 3) C [(3, .int (iI 0)), (2, .int (iI (-1))), (0, .ref (adr L 14 0 0)), (1, .int (iI r))] rfl (by decide) rfl dX7_echoAt_3 ?_
  have lb4 : ∀ (n9 : Nat) (i : Int) (q : Int), (0 ≤ i ∧ i ≤ g 15 0 0 9) → (q = eaM g r i.toNat) → (g 15 0 0 9 - i).toNat < n9 → V pp l ee { frames := 1, cells := 0, slots := 0, locals := 22 } ss mm ([.ref (adr L 14 0 0), .int (iI r)]).toArray bel mth cx 7 L (HH L g) 0 0 (MQ bel (va_Qi (fun (r9 : Int32) (u9 : St) => r9 = iI (eaM g r (g 15 0 0 9).toNat) ∧ u9 = g) (fun u t => HS L u t) (Af L)) ([.ref (adr L 14 0 0), .int (iI r)]).toArray ss 0 0 (Af L)) 4 [(0, .ref (adr L 14 0 0)), (1, .int (iI r)), (2, .int (iI q)), (3, .int (iI i))] [] := by
    intro n9
    induction n9 with
    | zero => intro i q hi hq hm9; exact absurd hm9 (Nat.not_lt_zero _)
    | succ n9 ih9 =>
      intro i q hi hq hm9
      have ih4 := ih9
      refine v_iload_n (pc := 4) C 3 rfl rfl dX7_echoAt_4 ?_
      refine v_aload_n (pc := 5) C 0 rfl rfl dX7_echoAt_5 ?_
      refine gt_14_1 (pc := 6) C u_4_4 dX7_echoAt_6 ?_
      refine v_bipush (pc := 9) C rfl dX7_echoAt_9 ?_
      refine al_15 (pc := 11) C ⟨by (first | assumption | omega | (unfold rg; omega)), by (first | assumption | omega | (unfold rg; omega))⟩ dX7_echoAt_11 (g 15 0 0 9) (rfl) ?_
      refine v_icmp_ge (pc := 12) C 99 ⟨by (first | assumption | omega | (unfold rg; omega)), by (first | assumption | omega | (unfold rg; omega))⟩ ⟨by (first | assumption | omega | (unfold rg; omega)), by (first | assumption | omega | (unfold rg; omega))⟩ (by decide) dX7_echoAt_12 (fun h12 => ?_) (fun h12 => ?_)
      · skip
        refine v_iload_n (pc := 99) C 2 rfl rfl dX7_echoAt_99 ?_
        exact v_iret (pc := 100) C hr hlk (⟨congrArg iI (by rw [hq, show i = g 15 0 0 9 by omega]), rfl⟩) dX7_echoAt_100
      · skip
        have hi2 := mEc i (by omega) (by omega)
        unfold okM at hi2
        refine v_iconst (pc := 15) C dX7_echoAt_15 ?_
        refine v_istore (pc := 16) C [(4, .int (iI 0)), (0, .ref (adr L 14 0 0)), (1, .int (iI r)), (2, .int (iI q)), (3, .int (iI i))] (by decide) rfl dX7_echoAt_16 ?_
        refine v_iconst (pc := 18) C dX7_echoAt_18 ?_
        refine v_istore (pc := 19) C [(5, .int (iI 0)), (4, .int (iI 0)), (0, .ref (adr L 14 0 0)), (1, .int (iI r)), (2, .int (iI q)), (3, .int (iI i))] (by decide) rfl dX7_echoAt_19 ?_
        have lb21 : ∀ (n9 : Nat) (e : Int) (b : Int), (0 ≤ e ∧ e ≤ g 15 0 0 9) → (b = cn (fun e => decide (bef g i e)) e.toNat) → (0 ≤ b ∧ b ≤ e) → (g 15 0 0 9 - e).toNat < n9 → V pp l ee { frames := 1, cells := 0, slots := 0, locals := 22 } ss mm ([.ref (adr L 14 0 0), .int (iI r)]).toArray bel mth cx 7 L (HH L g) 0 0 (MQ bel (va_Qi (fun (r9 : Int32) (u9 : St) => r9 = iI (eaM g r (g 15 0 0 9).toNat) ∧ u9 = g) (fun u t => HS L u t) (Af L)) ([.ref (adr L 14 0 0), .int (iI r)]).toArray ss 0 0 (Af L)) 21 [(0, .ref (adr L 14 0 0)), (1, .int (iI r)), (2, .int (iI q)), (3, .int (iI i)), (4, .int (iI b)), (5, .int (iI e))] [] := by
          intro n9
          induction n9 with
          | zero => intro e b he0 hb hbb hm9; exact absurd hm9 (Nat.not_lt_zero _)
          | succ n9 ih9 =>
            intro e b he0 hb hbb hm9
            have ih21 := ih9
            refine v_iload (pc := 21) C 5 rfl dX7_echoAt_21 ?_
            refine v_aload_n (pc := 23) C 0 rfl rfl dX7_echoAt_23 ?_
            refine gt_14_1 (pc := 24) C u_4_4 dX7_echoAt_24 ?_
            refine v_bipush (pc := 27) C rfl dX7_echoAt_27 ?_
            refine al_15 (pc := 29) C ⟨by (first | assumption | omega | (unfold rg; omega)), by (first | assumption | omega | (unfold rg; omega))⟩ dX7_echoAt_29 (g 15 0 0 9) (rfl) ?_
            refine v_icmp_ge (pc := 30) C 81 ⟨by (first | assumption | omega | (unfold rg; omega)), by (first | assumption | omega | (unfold rg; omega))⟩ ⟨by (first | assumption | omega | (unfold rg; omega)), by (first | assumption | omega | (unfold rg; omega))⟩ (by decide) dX7_echoAt_30 (fun h30 => ?_) (fun h30 => ?_)
            · skip
              refine v_iload (pc := 81) C 4 rfl dX7_echoAt_81 ?_
              refine v_iload_n (pc := 83) C 1 rfl rfl dX7_echoAt_83 ?_
              refine v_icmp_ne (pc := 84) C 91 ⟨by (first | assumption | omega | (unfold rg; omega)), by (first | assumption | omega | (unfold rg; omega))⟩ ⟨by (first | assumption | omega | (unfold rg; omega)), by (first | assumption | omega | (unfold rg; omega))⟩ (by decide) dX7_echoAt_84 (fun h84 => ?_) (fun h84 => ?_)
              · skip
                refine v_iload_n (pc := 91) C 2 rfl rfl dX7_echoAt_91 ?_
                refine v_istore_n (pc := 92) C [(2, .int (iI q)), (0, .ref (adr L 14 0 0)), (1, .int (iI r)), (3, .int (iI i)), (4, .int (iI b)), (5, .int (iI e))] rfl (by decide) rfl dX7_echoAt_92 ?_
                refine v_iinc (pc := 93) C 3 [(3, .int (iI (i + 1))), (2, .int (iI q)), (0, .ref (adr L 14 0 0)), (1, .int (iI r)), (4, .int (iI b)), (5, .int (iI e))] rfl (by decide) rfl dX7_echoAt_93 ?_
                refine v_goto (pc := 96) C 4 (by decide) dX7_echoAt_96 ?_
                refine v_lsub [2, 3, 1, 0] rfl ?_
                exact ih4 (i + 1) q (by omega) (by rw [eaM_s g hi.1, ← hq]; have hrk : rk g i = b := (by unfold rk; rw [hb, show e = g 15 0 0 9 by omega]); first | rw [if_pos (by omega)] | rw [if_neg (by omega)]) (by omega)
              · skip
                refine v_iload_n (pc := 87) C 3 rfl rfl dX7_echoAt_87 ?_
                refine v_goto (pc := 88) C 92 (by decide) dX7_echoAt_88 ?_
                refine v_istore_n (pc := 92) C [(2, .int (iI i)), (0, .ref (adr L 14 0 0)), (1, .int (iI r)), (3, .int (iI i)), (4, .int (iI b)), (5, .int (iI e))] rfl (by decide) rfl dX7_echoAt_92 ?_
                refine v_iinc (pc := 93) C 3 [(3, .int (iI (i + 1))), (2, .int (iI i)), (0, .ref (adr L 14 0 0)), (1, .int (iI r)), (4, .int (iI b)), (5, .int (iI e))] rfl (by decide) rfl dX7_echoAt_93 ?_
                refine v_goto (pc := 96) C 4 (by decide) dX7_echoAt_96 ?_
                refine v_lsub [2, 3, 1, 0] rfl ?_
                exact ih4 (i + 1) i (by omega) (by rw [eaM_s g hi.1, ← hq]; have hrk : rk g i = b := (by unfold rk; rw [hb, show e = g 15 0 0 9 by omega]); first | rw [if_pos (by omega)] | rw [if_neg (by omega)]) (by omega)
            · skip
              have he := mEc e (by omega) (by omega)
              unfold okM at he
              refine v_aload_n (pc := 33) C 0 rfl rfl dX7_echoAt_33 ?_
              refine v_iload (pc := 34) C 5 rfl dX7_echoAt_34 ?_
              refine v_iconst (pc := 36) C dX7_echoAt_36 ?_
              refine v_calliV (pc := 37) C cw_RX7_54 rcv_14 (ct_X7_ofEcho l L g e 3 (by first | assumption | omega | (unfold rg; omega)) (by first | assumption | omega | (unfold rg; omega))) ⟨Nat.le_of_ble_eq_true rfl, Nat.le_of_ble_eq_true rfl⟩ rfl (Nat.le_of_ble_eq_true rfl) ⟨Nat.le_of_ble_eq_true rfl, Nat.le_of_ble_eq_true rfl⟩ rfl dX7_echoAt_37 (fun r9 u9 hP_1 => ?_)
              obtain ⟨hP_1, hP_1b⟩ := hP_1
              rw [hP_1, hP_1b]
              clear hP_1 hP_1b r9 u9
              refine v_aload_n (pc := 40) C 0 rfl rfl dX7_echoAt_40 ?_
              refine v_iload_n (pc := 41) C 3 rfl rfl dX7_echoAt_41 ?_
              refine v_iconst (pc := 42) C dX7_echoAt_42 ?_
              refine v_calliV (pc := 43) C cw_RX7_54 rcv_14 (ct_X7_ofEcho l L g i 3 (by first | assumption | omega | (unfold rg; omega)) (by first | assumption | omega | (unfold rg; omega))) ⟨Nat.le_of_ble_eq_true rfl, Nat.le_of_ble_eq_true rfl⟩ rfl (Nat.le_of_ble_eq_true rfl) ⟨Nat.le_of_ble_eq_true rfl, Nat.le_of_ble_eq_true rfl⟩ rfl dX7_echoAt_43 (fun r9 u9 hP_2 => ?_)
              obtain ⟨hP_2, hP_2b⟩ := hP_2
              rw [hP_2, hP_2b]
              clear hP_2 hP_2b r9 u9
              refine v_isub (pc := 46) C dX7_echoAt_46 ?_
              refine v_istore (pc := 47) C [(6, .int (iI ((g 15 0 0 (34 + 5 * e + 3)) - (g 15 0 0 (34 + 5 * i + 3))))), (0, .ref (adr L 14 0 0)), (1, .int (iI r)), (2, .int (iI q)), (3, .int (iI i)), (4, .int (iI b)), (5, .int (iI e))] (by decide) rfl dX7_echoAt_47 ?_
              refine v_iload (pc := 49) C 5 rfl dX7_echoAt_49 ?_
              refine v_iload (pc := 51) C 0 rfl dX7_echoAt_51 ?_
              refine v_if_lt (pc := 53) C 67 ⟨by (first | assumption | omega | (unfold rg; omega)), by (first | assumption | omega | (unfold rg; omega))⟩ (by decide) dX7_echoAt_53 (fun h53 => ?_) (fun h53 => ?_)
              · skip
                refine v_iconst (pc := 67) C dX7_echoAt_67 ?_
                refine v_goto (pc := 68) C 72 (by decide) dX7_echoAt_68 ?_
                refine v_iadd (pc := 72) C dX7_echoAt_72 ?_
                refine v_istore (pc := 73) C [(4, .int (iI (b + 1))), (6, .int (iI ((g 15 0 0 (34 + 5 * e + 3)) - (g 15 0 0 (34 + 5 * i + 3))))), (0, .ref (adr L 14 0 0)), (1, .int (iI r)), (2, .int (iI q)), (3, .int (iI i)), (5, .int (iI e))] (by decide) rfl dX7_echoAt_73 ?_
                refine v_iinc (pc := 75) C 6 [(5, .int (iI (e + 1))), (4, .int (iI (b + 1))), (6, .int (iI ((g 15 0 0 (34 + 5 * e + 3)) - (g 15 0 0 (34 + 5 * i + 3))))), (0, .ref (adr L 14 0 0)), (1, .int (iI r)), (2, .int (iI q)), (3, .int (iI i))] rfl (by decide) rfl dX7_echoAt_75 ?_
                refine v_goto (pc := 78) C 21 (by decide) dX7_echoAt_78 ?_
                refine v_lsub [3, 4, 5, 6, 1, 0] rfl ?_
                exact ih21 (e + 1) (b + 1) (by omega) (by rw [cn_s he0.1, ← hb]; simp only [bef, decide_eq_true_eq]; split <;> omega) (by omega) (by omega)
              · skip
                refine v_iload (pc := 56) C 0 rfl dX7_echoAt_56 ?_
                refine v_if_ne (pc := 58) C 71 ⟨by (first | assumption | omega | (unfold rg; omega)), by (first | assumption | omega | (unfold rg; omega))⟩ (by decide) dX7_echoAt_58 (fun h58 => ?_) (fun h58 => ?_)
                · skip
                  refine v_iconst (pc := 71) C dX7_echoAt_71 ?_
                  refine v_iadd (pc := 72) C dX7_echoAt_72 ?_
                  refine v_istore (pc := 73) C [(4, .int (iI (b + 0))), (6, .int (iI ((g 15 0 0 (34 + 5 * e + 3)) - (g 15 0 0 (34 + 5 * i + 3))))), (0, .ref (adr L 14 0 0)), (1, .int (iI r)), (2, .int (iI q)), (3, .int (iI i)), (5, .int (iI e))] (by decide) rfl dX7_echoAt_73 ?_
                  refine v_iinc (pc := 75) C 6 [(5, .int (iI (e + 1))), (4, .int (iI (b + 0))), (6, .int (iI ((g 15 0 0 (34 + 5 * e + 3)) - (g 15 0 0 (34 + 5 * i + 3))))), (0, .ref (adr L 14 0 0)), (1, .int (iI r)), (2, .int (iI q)), (3, .int (iI i))] rfl (by decide) rfl dX7_echoAt_75 ?_
                  refine v_goto (pc := 78) C 21 (by decide) dX7_echoAt_78 ?_
                  refine v_lsub [3, 4, 5, 6, 1, 0] rfl ?_
                  exact ih21 (e + 1) (b + 0) (by omega) (by rw [cn_s he0.1, ← hb]; simp only [bef, decide_eq_true_eq]; split <;> omega) (by omega) (by omega)
                · skip
                  refine v_iload (pc := 61) C 6 rfl dX7_echoAt_61 ?_
                  refine v_iload_n (pc := 63) C 4 rfl rfl dX7_echoAt_63 ?_
                  refine v_icmp_ge (pc := 64) C 71 ⟨by (first | assumption | omega | (unfold rg; omega)), by (first | assumption | omega | (unfold rg; omega))⟩ ⟨by (first | assumption | omega | (unfold rg; omega)), by (first | assumption | omega | (unfold rg; omega))⟩ (by decide) dX7_echoAt_64 (fun h64 => ?_) (fun h64 => ?_)
                  · skip
                    refine v_iconst (pc := 71) C dX7_echoAt_71 ?_
                    refine v_iadd (pc := 72) C dX7_echoAt_72 ?_
                    refine v_istore (pc := 73) C [(4, .int (iI (b + 0))), (6, .int (iI ((g 15 0 0 (34 + 5 * e + 3)) - (g 15 0 0 (34 + 5 * i + 3))))), (0, .ref (adr L 14 0 0)), (1, .int (iI r)), (2, .int (iI q)), (3, .int (iI i)), (5, .int (iI e))] (by decide) rfl dX7_echoAt_73 ?_
                    refine v_iinc (pc := 75) C 6 [(5, .int (iI (e + 1))), (4, .int (iI (b + 0))), (6, .int (iI ((g 15 0 0 (34 + 5 * e + 3)) - (g 15 0 0 (34 + 5 * i + 3))))), (0, .ref (adr L 14 0 0)), (1, .int (iI r)), (2, .int (iI q)), (3, .int (iI i))] rfl (by decide) rfl dX7_echoAt_75 ?_
                    refine v_goto (pc := 78) C 21 (by decide) dX7_echoAt_78 ?_
                    refine v_lsub [3, 4, 5, 6, 1, 0] rfl ?_
                    exact ih21 (e + 1) (b + 0) (by omega) (by rw [cn_s he0.1, ← hb]; simp only [bef, decide_eq_true_eq]; split <;> omega) (by omega) (by omega)
                  · skip
                    refine v_iconst (pc := 67) C dX7_echoAt_67 ?_
                    refine v_goto (pc := 68) C 72 (by decide) dX7_echoAt_68 ?_
                    refine v_iadd (pc := 72) C dX7_echoAt_72 ?_
                    refine v_istore (pc := 73) C [(4, .int (iI (b + 1))), (6, .int (iI ((g 15 0 0 (34 + 5 * e + 3)) - (g 15 0 0 (34 + 5 * i + 3))))), (0, .ref (adr L 14 0 0)), (1, .int (iI r)), (2, .int (iI q)), (3, .int (iI i)), (5, .int (iI e))] (by decide) rfl dX7_echoAt_73 ?_
                    refine v_iinc (pc := 75) C 6 [(5, .int (iI (e + 1))), (4, .int (iI (b + 1))), (6, .int (iI ((g 15 0 0 (34 + 5 * e + 3)) - (g 15 0 0 (34 + 5 * i + 3))))), (0, .ref (adr L 14 0 0)), (1, .int (iI r)), (2, .int (iI q)), (3, .int (iI i))] rfl (by decide) rfl dX7_echoAt_75 ?_
                    refine v_goto (pc := 78) C 21 (by decide) dX7_echoAt_78 ?_
                    refine v_lsub [3, 4, 5, 6, 1, 0] rfl ?_
                    exact ih21 (e + 1) (b + 1) (by omega) (by rw [cn_s he0.1, ← hb]; simp only [bef, decide_eq_true_eq]; split <;> omega) (by omega) (by omega)
        refine v_lsub [2, 3, 4, 5, 1, 0] rfl ?_
        exact lb21 _ 0 0 (by omega) (by rfl) (by omega) (Nat.lt_succ_self _)
  refine v_lsub [2, 3, 1, 0] rfl ?_
  exact lb4 _ 0 (-1) (by omega) (by rfl) (Nat.lt_succ_self _)
set_option maxHeartbeats 4000000 in
set_option maxRecDepth 100000 in
theorem ct_X7_tellsEcho (l : Launch) (L : Lay) (g : St) (d r w : Int) (hm : wm (g 15 0 0) d) (hd : 0 ≤ d ∧ d ≤ 1) (hw : 0 ≤ w ∧ w ≤ 5) (hrr : rg r) : Met l yX7_tellsEcho (.code yX7_tellsEcho cX7_tellsEcho 4 (some .int) :: wsL_law) { frames := 2, cells := 0, slots := 0, locals := 48 } (va_Pc [.ref (adr L 14 0 0), .int (iI r), .int (iI w)] (HS L g)) (va_Qi (fun (r9 : Int32) (u9 : St) => r9 = iI (mEt g r w) ∧ u9 = g) (fun u t => HS L u t) (Af L)) 0 0 (Af L) := by
  refine ct_mk (by decide +kernel) (Nat.le_of_ble_eq_true rfl) ?_
  intro pp ee ss mm bel mth cx C hr hlk
  show V pp l ee { frames := 2, cells := 0, slots := 0, locals := 48 } ss mm ([.ref (adr L 14 0 0), .int (iI r), .int (iI w)]).toArray bel mth cx 4 L (HH L g) 0 0 _ 0 [(0, .ref (adr L 14 0 0)), (1, .int (iI r)), (2, .int (iI w))] []
  obtain ⟨mS0, mS1, mS2, mB0, mB1, mB2, mCl, mN, mPl, mEc⟩ := id hm
  have hea := eaM_in g r (g 15 0 0 9).toNat
  have hco := fun a b => mCo_in g a b
  refine v_aload_n (pc := 0) C 0 rfl rfl dX7_tellsEcho_0 ?_
  refine v_iload_n (pc := 1) C 1 rfl rfl dX7_tellsEcho_1 ?_
  refine v_calliV (pc := 2) C cw_RX7_154 rcv_14 (ct_X7_echoAt l L g d r (by first | assumption | omega | (unfold rg; omega)) (by first | assumption | omega | (unfold rg; omega)) (by first | assumption | omega | (unfold rg; omega))) ⟨Nat.le_of_ble_eq_true rfl, Nat.le_of_ble_eq_true rfl⟩ rfl (Nat.le_of_ble_eq_true rfl) ⟨Nat.le_of_ble_eq_true rfl, Nat.le_of_ble_eq_true rfl⟩ rfl dX7_tellsEcho_2 (fun r9 u9 hP_1 => ?_)
  obtain ⟨hP_1, hP_1b⟩ := hP_1
  rw [hP_1, hP_1b]
  clear hP_1 hP_1b r9 u9
  refine v_istore_n (pc := 5) C [(3, .int (iI (eaM g r (g 15 0 0 9).toNat))), (0, .ref (adr L 14 0 0)), (1, .int (iI r)), (2, .int (iI w))] rfl (by decide) rfl dX7_tellsEcho_5 ?_
  refine v_iload_n (pc := 6) C 0 rfl rfl dX7_tellsEcho_6 ?_
  refine v_iconst (pc := 7) C dX7_tellsEcho_7 ?_
  refine v_icmp_ne (pc := 8) C 13 ⟨by (first | assumption | omega | (unfold rg; omega)), by (first | assumption | omega | (unfold rg; omega))⟩ ⟨by (first | assumption | omega | (unfold rg; omega)), by (first | assumption | omega | (unfold rg; omega))⟩ (by decide) dX7_tellsEcho_8 (fun h8 => ?_) (fun h8 => ?_)
  · skip
    have hi2 := mEc (eaM g r (g 15 0 0 9).toNat) (by omega) (by omega)
    unfold okM at hi2
    have hco2 := hco (g 15 0 0 (34 + 5 * eaM g r (g 15 0 0 9).toNat + 1)) (g 15 0 0 (34 + 5 * eaM g r (g 15 0 0 9).toNat + 3))
    refine v_iload_n (pc := 13) C 3 rfl rfl dX7_tellsEcho_13 ?_
    by_cases h14_3 : w = 3
    · skip
      refine v_tableIn (pc := 14) (o := 26) C 40 ⟨by (first | assumption | omega | (unfold rg; omega)), by (first | assumption | omega | (unfold rg; omega))⟩ (by (first | assumption | omega | (unfold rg; omega))) (by (first | assumption | omega | (unfold rg; omega))) (by rw [h14_3]; rfl) (by decide) dX7_tellsEcho_14 ?_
      refine v_aload_n (pc := 40) C 1 rfl rfl dX7_tellsEcho_40 ?_
      refine v_iload_n (pc := 41) C 0 rfl rfl dX7_tellsEcho_41 ?_
      refine v_iconst (pc := 42) C dX7_tellsEcho_42 ?_
      refine v_calliV (pc := 43) C cw_RX7_54 rcv_14 (ct_X7_ofEcho l L g (eaM g r (g 15 0 0 9).toNat) 3 (by first | assumption | omega | (unfold rg; omega)) (by first | assumption | omega | (unfold rg; omega))) ⟨Nat.le_of_ble_eq_true rfl, Nat.le_of_ble_eq_true rfl⟩ rfl (Nat.le_of_ble_eq_true rfl) ⟨Nat.le_of_ble_eq_true rfl, Nat.le_of_ble_eq_true rfl⟩ rfl dX7_tellsEcho_43 (fun r9 u9 hP_2 => ?_)
      obtain ⟨hP_2, hP_2b⟩ := hP_2
      rw [hP_2, hP_2b]
      clear hP_2 hP_2b r9 u9
      refine v_aload_n (pc := 46) C 1 rfl rfl dX7_tellsEcho_46 ?_
      refine gt_14_1 (pc := 47) C u_4_4 dX7_tellsEcho_47 ?_
      refine v_iconst (pc := 50) C dX7_tellsEcho_50 ?_
      refine al_15 (pc := 51) C ⟨by (first | assumption | omega | (unfold rg; omega)), by (first | assumption | omega | (unfold rg; omega))⟩ dX7_tellsEcho_51 (g 15 0 0 3) (rfl) ?_
      refine v_isub (pc := 52) C dX7_tellsEcho_52 ?_
      exact v_iret (pc := 53) C hr hlk (⟨congrArg iI (by unfold mEt; simp only []; first | rw [if_pos (by omega)] | (rw [if_neg (by omega), if_pos (by omega)]) | (rw [if_neg (by omega), if_neg (by omega), if_pos (by omega)]) | (rw [if_neg (by omega), if_neg (by omega), if_neg (by omega), if_pos (by omega), if_pos (by omega)]) | (rw [if_neg (by omega), if_neg (by omega), if_neg (by omega), if_pos (by omega), if_neg (by omega)]) | (rw [if_neg (by omega), if_neg (by omega), if_neg (by omega), if_neg (by omega)])), rfl⟩) dX7_tellsEcho_53
    by_cases h14_4 : w = 4
    · skip
      refine v_tableIn (pc := 14) (o := 40) C 54 ⟨by (first | assumption | omega | (unfold rg; omega)), by (first | assumption | omega | (unfold rg; omega))⟩ (by (first | assumption | omega | (unfold rg; omega))) (by (first | assumption | omega | (unfold rg; omega))) (by rw [h14_4]; rfl) (by decide) dX7_tellsEcho_14 ?_
      refine v_aload_n (pc := 54) C 1 rfl rfl dX7_tellsEcho_54 ?_
      refine v_iload_n (pc := 55) C 0 rfl rfl dX7_tellsEcho_55 ?_
      refine v_iconst (pc := 56) C dX7_tellsEcho_56 ?_
      refine v_calliV (pc := 57) C cw_RX7_54 rcv_14 (ct_X7_ofEcho l L g (eaM g r (g 15 0 0 9).toNat) 4 (by first | assumption | omega | (unfold rg; omega)) (by first | assumption | omega | (unfold rg; omega))) ⟨Nat.le_of_ble_eq_true rfl, Nat.le_of_ble_eq_true rfl⟩ rfl (Nat.le_of_ble_eq_true rfl) ⟨Nat.le_of_ble_eq_true rfl, Nat.le_of_ble_eq_true rfl⟩ rfl dX7_tellsEcho_57 (fun r9 u9 hP_3 => ?_)
      obtain ⟨hP_3, hP_3b⟩ := hP_3
      rw [hP_3, hP_3b]
      clear hP_3 hP_3b r9 u9
      exact v_iret (pc := 60) C hr hlk (⟨congrArg iI (by unfold mEt; simp only []; first | rw [if_pos (by omega)] | (rw [if_neg (by omega), if_pos (by omega)]) | (rw [if_neg (by omega), if_neg (by omega), if_pos (by omega)]) | (rw [if_neg (by omega), if_neg (by omega), if_neg (by omega), if_pos (by omega), if_pos (by omega)]) | (rw [if_neg (by omega), if_neg (by omega), if_neg (by omega), if_pos (by omega), if_neg (by omega)]) | (rw [if_neg (by omega), if_neg (by omega), if_neg (by omega), if_neg (by omega)])), rfl⟩) dX7_tellsEcho_60
    by_cases h14_5 : w = 5
    · skip
      refine v_tableIn (pc := 14) (o := 47) C 61 ⟨by (first | assumption | omega | (unfold rg; omega)), by (first | assumption | omega | (unfold rg; omega))⟩ (by (first | assumption | omega | (unfold rg; omega))) (by (first | assumption | omega | (unfold rg; omega))) (by rw [h14_5]; rfl) (by decide) dX7_tellsEcho_14 ?_
      refine v_aload_n (pc := 61) C 1 rfl rfl dX7_tellsEcho_61 ?_
      refine v_aload_n (pc := 62) C 1 rfl rfl dX7_tellsEcho_62 ?_
      refine v_iload_n (pc := 63) C 0 rfl rfl dX7_tellsEcho_63 ?_
      refine v_iconst (pc := 64) C dX7_tellsEcho_64 ?_
      refine v_calliV (pc := 65) C cw_RX7_54 rcv_14 (ct_X7_ofEcho l L g (eaM g r (g 15 0 0 9).toNat) 1 (by first | assumption | omega | (unfold rg; omega)) (by first | assumption | omega | (unfold rg; omega))) ⟨Nat.le_of_ble_eq_true rfl, Nat.le_of_ble_eq_true rfl⟩ rfl (Nat.le_of_ble_eq_true rfl) ⟨Nat.le_of_ble_eq_true rfl, Nat.le_of_ble_eq_true rfl⟩ rfl dX7_tellsEcho_65 (fun r9 u9 hP_4 => ?_)
      obtain ⟨hP_4, hP_4b⟩ := hP_4
      rw [hP_4, hP_4b]
      clear hP_4 hP_4b r9 u9
      refine v_aload_n (pc := 68) C 1 rfl rfl dX7_tellsEcho_68 ?_
      refine v_iload_n (pc := 69) C 0 rfl rfl dX7_tellsEcho_69 ?_
      refine v_iconst (pc := 70) C dX7_tellsEcho_70 ?_
      refine v_calliV (pc := 71) C cw_RX7_54 rcv_14 (ct_X7_ofEcho l L g (eaM g r (g 15 0 0 9).toNat) 3 (by first | assumption | omega | (unfold rg; omega)) (by first | assumption | omega | (unfold rg; omega))) ⟨Nat.le_of_ble_eq_true rfl, Nat.le_of_ble_eq_true rfl⟩ rfl (Nat.le_of_ble_eq_true rfl) ⟨Nat.le_of_ble_eq_true rfl, Nat.le_of_ble_eq_true rfl⟩ rfl dX7_tellsEcho_71 (fun r9 u9 hP_5 => ?_)
      obtain ⟨hP_5, hP_5b⟩ := hP_5
      rw [hP_5, hP_5b]
      clear hP_5 hP_5b r9 u9
      refine v_calliV (pc := 74) C cw_RX7_77 rcv_14 (ct_X7_comingTo l L g d (g 15 0 0 (34 + 5 * (eaM g r (g 15 0 0 9).toNat) + 1)) (g 15 0 0 (34 + 5 * (eaM g r (g 15 0 0 9).toNat) + 3)) (by first | assumption | omega | (unfold rg; omega)) (by first | assumption | omega | (unfold rg; omega)) (by first | assumption | omega | (unfold rg; omega)) (by first | assumption | omega | (unfold rg; omega))) ⟨Nat.le_of_ble_eq_true rfl, Nat.le_of_ble_eq_true rfl⟩ rfl (Nat.le_of_ble_eq_true rfl) ⟨Nat.le_of_ble_eq_true rfl, Nat.le_of_ble_eq_true rfl⟩ rfl dX7_tellsEcho_74 (fun r9 u9 hP_6 => ?_)
      obtain ⟨hP_6, hP_6b⟩ := hP_6
      rw [hP_6, hP_6b]
      clear hP_6 hP_6b r9 u9
      refine v_iconst (pc := 77) C dX7_tellsEcho_77 ?_
      refine v_icmp_le (pc := 78) C 85 ⟨by (first | assumption | omega | (unfold rg; omega)), by (first | assumption | omega | (unfold rg; omega))⟩ ⟨by (first | assumption | omega | (unfold rg; omega)), by (first | assumption | omega | (unfold rg; omega))⟩ (by decide) dX7_tellsEcho_78 (fun h78 => ?_) (fun h78 => ?_)
      · skip
        refine v_iconst (pc := 85) C dX7_tellsEcho_85 ?_
        exact v_iret (pc := 86) C hr hlk (⟨congrArg iI (by unfold mEt; simp only []; first | rw [if_pos (by omega)] | (rw [if_neg (by omega), if_pos (by omega)]) | (rw [if_neg (by omega), if_neg (by omega), if_pos (by omega)]) | (rw [if_neg (by omega), if_neg (by omega), if_neg (by omega), if_pos (by omega), if_pos (by omega)]) | (rw [if_neg (by omega), if_neg (by omega), if_neg (by omega), if_pos (by omega), if_neg (by omega)]) | (rw [if_neg (by omega), if_neg (by omega), if_neg (by omega), if_neg (by omega)])), rfl⟩) dX7_tellsEcho_86
      · skip
        refine v_iconst (pc := 81) C dX7_tellsEcho_81 ?_
        refine v_goto (pc := 82) C 86 (by decide) dX7_tellsEcho_82 ?_
        exact v_iret (pc := 86) C hr hlk (⟨congrArg iI (by unfold mEt; simp only []; first | rw [if_pos (by omega)] | (rw [if_neg (by omega), if_pos (by omega)]) | (rw [if_neg (by omega), if_neg (by omega), if_pos (by omega)]) | (rw [if_neg (by omega), if_neg (by omega), if_neg (by omega), if_pos (by omega), if_pos (by omega)]) | (rw [if_neg (by omega), if_neg (by omega), if_neg (by omega), if_pos (by omega), if_neg (by omega)]) | (rw [if_neg (by omega), if_neg (by omega), if_neg (by omega), if_neg (by omega)])), rfl⟩) dX7_tellsEcho_86
    refine v_tableOut (pc := 14) C 87 ⟨by (first | assumption | omega | (unfold rg; omega)), by (first | assumption | omega | (unfold rg; omega))⟩ (by (first | assumption | omega | (unfold rg; omega))) (by decide) dX7_tellsEcho_14 ?_
    refine v_aload_n (pc := 87) C 1 rfl rfl dX7_tellsEcho_87 ?_
    refine v_iload_n (pc := 88) C 0 rfl rfl dX7_tellsEcho_88 ?_
    refine v_iload_n (pc := 89) C 3 rfl rfl dX7_tellsEcho_89 ?_
    refine v_calliV (pc := 90) C cw_RX7_54 rcv_14 (ct_X7_ofEcho l L g (eaM g r (g 15 0 0 9).toNat) w (by first | assumption | omega | (unfold rg; omega)) (by first | assumption | omega | (unfold rg; omega))) ⟨Nat.le_of_ble_eq_true rfl, Nat.le_of_ble_eq_true rfl⟩ rfl (Nat.le_of_ble_eq_true rfl) ⟨Nat.le_of_ble_eq_true rfl, Nat.le_of_ble_eq_true rfl⟩ rfl dX7_tellsEcho_90 (fun r9 u9 hP_7 => ?_)
    obtain ⟨hP_7, hP_7b⟩ := hP_7
    rw [hP_7, hP_7b]
    clear hP_7 hP_7b r9 u9
    exact v_iret (pc := 93) C hr hlk (⟨congrArg iI (by unfold mEt; simp only []; first | rw [if_pos (by omega)] | (rw [if_neg (by omega), if_pos (by omega)]) | (rw [if_neg (by omega), if_neg (by omega), if_pos (by omega)]) | (rw [if_neg (by omega), if_neg (by omega), if_neg (by omega), if_pos (by omega), if_pos (by omega)]) | (rw [if_neg (by omega), if_neg (by omega), if_neg (by omega), if_pos (by omega), if_neg (by omega)]) | (rw [if_neg (by omega), if_neg (by omega), if_neg (by omega), if_neg (by omega)])), rfl⟩) dX7_tellsEcho_93
  · skip
    refine v_iconst (pc := 11) C dX7_tellsEcho_11 ?_
    exact v_iret (pc := 12) C hr hlk (⟨congrArg iI (by unfold mEt; simp only []; first | rw [if_pos (by omega)] | (rw [if_neg (by omega), if_pos (by omega)]) | (rw [if_neg (by omega), if_neg (by omega), if_pos (by omega)]) | (rw [if_neg (by omega), if_neg (by omega), if_neg (by omega), if_pos (by omega), if_pos (by omega)]) | (rw [if_neg (by omega), if_neg (by omega), if_neg (by omega), if_pos (by omega), if_neg (by omega)]) | (rw [if_neg (by omega), if_neg (by omega), if_neg (by omega), if_neg (by omega)])), rfl⟩) dX7_tellsEcho_12
