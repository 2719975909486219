section VF
variable {p : Program} {l : Launch} {e : Env} {R : Room} {s : State} {m : MethodId} {args : Array Value} {below : List Frame} {meth : Method} {c : Code} {cells slots : Nat} {Q : State → Prop} {cc : ByteArray} {nL : Nat} {own : String} {L : Lay} {g : St} {pc : Nat} {lv : List (Nat × Value)} {st : List Value} {ix : Nat}
theorem v_rawl (C : Cx p s m args c cc nL own L) {x : UInt64} {z : Int} (hz : x.toInt64 = lI z) (hlink : Cond.methodLink own ix ⟨"java/lang/Double", "doubleToRawLongBits", "(D)J"⟩ ∈ wsL_law) (hnat : Cond.native ⟨"java/lang/Double", "doubleToRawLongBits", "(D)J"⟩ ∈ wsL_law) (hstat : Cond.static ⟨"java/lang/Double", "doubleToRawLongBits", "(D)J"⟩ ∈ wsL_law) (hini : Cond.initialized "java/lang/Double" ∈ wsL_law) (hf : 1 ≤ R.frames) (hlo : (st.map fun v => v.category).sum + 15 ≤ R.locals) (hdg : decode cc pc = .ok (.invokestatic ix, 3)) (k : V p l e R s m args below meth c nL L (HH L g) cells slots Q (pc + 3) lv (.long (lI z) :: st)) : V p l e R s m args below meth c nL L (HH L g) cells slots Q (pc) lv (.double x :: st) := by
  intro H locs ls hI hS hl
  refine vn_d2l C.1 C.2.1 (C.2.2.1.trans hl.1.symm) C.2.2.2.1 (C.2.2.2.2.1 _ hlink) (C.2.2.2.2.1 _ hnat) (C.2.2.2.2.1 _ hstat) (C.2.2.2.2.1 _ hini) hf hlo hdg ?_
  rw [hz]; exact k H locs ls hI hS hl
end VF
/-! the reference: its share, its digest -/
def shMM (g : St) : UInt64 := shD (sumM g 3) (sumM g 3 + sumM g 4 + sumM g 5)
def hs (f : Int → Int) : Nat → Int → Int
  | 0, h => h
  | n + 1, h => 31 * hs f n h + f n
theorem hs_s (f : Int → Int) {i h : Int} (hi : 0 ≤ i) : hs f (i + 1).toNat h = 31 * hs f i.toNat h + f i := by
  rw [show (i + 1).toNat = i.toNat + 1 by omega, hs, show ((i.toNat : Nat) : Int) = i by omega]
abbrev uH (g : St) (h : Int) : St := up g 14 0 0 14 h
theorem uH_uH (g : St) (a b : Int) : up (uH g a) 14 0 0 14 b = uH g b := by funext f k j x; simp only [up]; grind
theorem uH_h (g : St) (h : Int) : uH g h 14 0 0 14 = h := up_s
theorem uH_15 (g : St) (h : Int) : uH g h 15 = g 15 := up_ff (by decide)
theorem e_mUw {u g : St} (h : u 15 = g 15) (p : Int) : mUw u p = mUw g p := mUw_15 h p
theorem e_mpl {u g : St} (h : u 15 = g 15) (p w : Int) : mpl u p w = mpl g p w := by unfold mpl; rw [e_mUw h, h]
theorem e_mD1 {u g : St} (h : u 15 = g 15) (p w : Int) : mD1 u p w = mD1 g p w := by unfold mD1 mDl; rw [h]
theorem e_mCo {u g : St} (h : u 15 = g 15) (p t : Int) : mCo u p t = mCo g p t := by unfold mCo mDu; rw [h]
theorem e_mIs {u g : St} (h : u 15 = g 15) (p w t : Int) : mIs u p w t ↔ mIs g p w t := by unfold mIs; rw [e_mD1 h, e_mD1 h, e_mD1 h, e_mCo h, h]
theorem e_mMe {u g : St} (h : u 15 = g 15) (p w t : Int) : mMe u p w t ↔ mMe g p w t := by unfold mMe mUn; rw [e_mIs h, e_mD1 h, h]
theorem e_mBw {u g : St} (h : u 15 = g 15) (p : Int) : mBw u p = mBw g p := by
  have e : mMB u p = mMB g p := by funext t; unfold mMB; exact decide_eq_decide.mpr (by rw [e_mMe h, e_mMe h])
  unfold mBw; rw [e]
theorem e_rk {u g : St} (h : u 15 = g 15) (i : Int) : rk u i = rk g i := by unfold rk bef; rw [h]
theorem e_eaM {u g : St} (h : u 15 = g 15) (r : Int) : ∀ n : Nat, eaM u r n = eaM g r n
  | 0 => rfl
  | n + 1 => by rw [eaM, eaM, e_rk h, e_eaM h r n]
theorem e_mEt {u g : St} (h : u 15 = g 15) (r w : Int) : mEt u r w = mEt g r w := by
  unfold mEt; simp only [e_eaM h, e_mCo h, h]
theorem e_mQu {u g : St} (h : u 15 = g 15) : mQu u = mQu g := by unfold mQu; rw [h]
theorem e_mBs {u g : St} (h : u 15 = g 15) : ∀ n : Nat, mBs u n = mBs g n
  | 0 => rfl
  | n + 1 => by rw [mBs, mBs, e_mBs h n]; unfold mBe; rw [h]
theorem e_sumM {u g : St} (h : u 15 = g 15) (w : Int) : sumM u w = sumM g w := by unfold sumM; rw [h]
theorem e_mCt {u g : St} (h : u 15 = g 15) (h3 : u 14 0 0 3 = g 14 0 0 3) (w : Int) : mCt u w = mCt g w := by
  unfold mCt; simp only [e_sumM h, h, h3]
theorem e_wm {u g : St} {d : Int} (h : u 15 = g 15) (hw : wm (g 15 0 0) d) : wm (u 15 0 0) d := by rw [h]; exact hw
def mp2 (g : St) (p : Int) : Nat → Int → Int
  | 0, h => h
  | n + 1, h => 31 * (31 * mp2 g p n h + mD1 g p n) + (if mIs g p n 0 then 1 else 0)
theorem mp2_s (g : St) (p : Int) {i h : Int} (hi : 0 ≤ i) : mp2 g p (i + 1).toNat h = 31 * (31 * mp2 g p i.toNat h + mD1 g p i) + (if mIs g p i 0 then 1 else 0) := by
  rw [show (i + 1).toNat = i.toNat + 1 by omega, mp2, show ((i.toNat : Nat) : Int) = i by omega]
def mpH (g : St) (p h : Int) : Int := 31 * mp2 g p 2 (hs (fun w => mpl g p w) 7 h) + mBw g p

theorem up_se (g : St) : up g 14 0 0 14 (g 14 0 0 14) = g := by funext f k j x; simp only [up]; grind
theorem mpl_rg {g : St} {d p w : Int} (hm : wm (g 15 0 0) d) (hc : ctM g) (hp : 0 ≤ p ∧ p < 4) (hw : 0 ≤ w ∧ w ≤ 6) : rg (mpl g p w) := by
  have hpl := hm.2.2.2.2.2.2.2.2.1 p hp.1 hp.2
  have hN := hm.2.2.2.2.2.2.2.1
  have hS := hm.1
  have hu := mUw_in g p
  unfold mpl; (repeat' split)
  · by_cases h0 : w = 0
    · subst h0; unfold rg; omega
    · have := hc (10 + 6 * p + w) (by omega) (by omega); unfold rg; omega
  · unfold rg; omega
  · have := hc (10 + 6 * p + (w - 1)) (by omega) (by omega); unfold rg; omega
theorem mBw_rg (g : St) (p : Int) : rg (mBw g p) := by
  have := frst_in (mMB g p) 61 0 (by decide)
  unfold mBw rg; omega

def meH (g : St) : Nat → Int → Int
  | 0, h => h
  | n + 1, h => hs (fun w => mEt g n w) 6 (meH g n h)
theorem meH_s (g : St) {i h : Int} (hi : 0 ≤ i) : meH g (i + 1).toNat h = hs (fun w => mEt g i w) 6 (meH g i.toNat h) := by
  rw [show (i + 1).toNat = i.toNat + 1 by omega, meH, show ((i.toNat : Nat) : Int) = i by omega]
def mpA (g : St) : Nat → Int → Int
  | 0, h => h
  | n + 1, h => mpH g n (mpA g n h)
theorem mpA_s (g : St) {i h : Int} (hi : 0 ≤ i) : mpA g (i + 1).toNat h = mpH g i (mpA g i.toNat h) := by
  rw [show (i + 1).toNat = i.toNat + 1 by omega, mpA, show ((i.toNat : Nat) : Int) = i by omega]
theorem e_mpH {u g : St} (h : u 15 = g 15) (p x : Int) : mpH u p x = mpH g p x := by
  have e : (fun w => mpl u p w) = fun w => mpl g p w := by funext w; exact e_mpl h p w
  unfold mpH; rw [e, e_mBw h]
  have e2 : ∀ (n : Nat) (x : Int), mp2 u p n x = mp2 g p n x := by
    intro n x
    induction n with
    | zero => rfl
    | succ n ih =>
      have ed := e_mD1 h p n
      rw [mp2, mp2, ih]
      by_cases hc : mIs g p n 0
      · rw [if_pos hc, if_pos ((e_mIs h p n 0).mpr hc), ed]
      · rw [if_neg hc, if_neg (fun hx => hc ((e_mIs h p n 0).mp hx)), ed]
  rw [e2]
theorem e_ctM {u g : St} (h : u 15 = g 15) (hc : ctM g) : ctM u := by unfold ctM; rw [h]; exact hc

theorem cw_RJxe99ae_122 : CWs RJxe99ae 122 yJxe99ae_isNaN_b9ae7 cJxe99ae_isNaN_b9ae7 2 (some .boolean) 1 := ⟨u_36_5, u_36_6, u_35_22, u_36_7, by decide +kernel⟩
theorem cw_RX7_190 : CW RX7 190 RX7 yX7_share cX7_share 2 (some .double) 0 := ⟨u_34_2, u_34_3, u_34_4, u_1_5, u_34_5, by decide +kernel⟩
theorem cw_RX7_200 : CW RX7 200 RX7 yX7_mix cX7_mix 3 none 1 := ⟨u_35_11, u_35_12, u_35_13, u_1_5, u_35_14, by decide +kernel⟩
set_option maxHeartbeats 4000000 in
set_option maxRecDepth 100000 in
theorem ct_X7_share (l : Launch) (L : Lay) (g : St) (hs3 : 0 ≤ sumM g 3 ∧ sumM g 3 ≤ 300000000) (hs4 : 0 ≤ sumM g 4 ∧ sumM g 4 ≤ 300000000) (hs5 : 0 ≤ sumM g 5 ∧ sumM g 5 ≤ 300000000) : Met l yX7_share (.code yX7_share cX7_share 2 (some .double) :: wsL_law) { frames := 2, cells := 0, slots := 0, locals := 45 } (va_Pc [.ref (adr L 14 0 0)] (HS L g)) (va_Qd (fun (r9 : UInt64) (u9 : St) => r9 = (shMM g) ∧ u9 = g) (fun u t => HS L u t) (Af L)) 0 0 (Af L) := by
  refine ct_mk (by decide +kernel) (Nat.le_of_ble_eq_true rfl) ?_
  intro pp ee ss mm bel mth cx C hr hlk
  show V pp l ee { frames := 2, cells := 0, slots := 0, locals := 45 } ss mm ([.ref (adr L 14 0 0)]).toArray bel mth cx 2 L (HH L g) 0 0 _ 0 [(0, .ref (adr L 14 0 0))] []
  refine v_aload_n (pc := 0) C 0 rfl rfl dX7_share_0 ?_
  refine v_iconst (pc := 1) C dX7_share_1 ?_
  refine v_calliV (pc := 2) C cw_RX7_160 rcv_14 (ct_X7_sum l L g 3 (by first | assumption | omega)) ⟨Nat.le_of_ble_eq_true rfl, Nat.le_of_ble_eq_true rfl⟩ rfl (Nat.le_of_ble_eq_true rfl) ⟨Nat.le_of_ble_eq_true rfl, Nat.le_of_ble_eq_true rfl⟩ rfl dX7_share_2 (fun r9 u9 hP_1 => ?_)
  obtain ⟨hP_1, hP_1b⟩ := hP_1
  rw [hP_1, hP_1b]
  clear hP_1 hP_1b r9 u9
  refine v_topi (b := sumM g 3) C (rfl) ?_
  refine v_aload_n (pc := 5) C 0 rfl rfl dX7_share_5 ?_
  refine v_iconst (pc := 6) C dX7_share_6 ?_
  refine v_calliV (pc := 7) C cw_RX7_160 rcv_14 (ct_X7_sum l L g 4 (by first | assumption | omega)) ⟨Nat.le_of_ble_eq_true rfl, Nat.le_of_ble_eq_true rfl⟩ rfl (Nat.le_of_ble_eq_true rfl) ⟨Nat.le_of_ble_eq_true rfl, Nat.le_of_ble_eq_true rfl⟩ rfl dX7_share_7 (fun r9 u9 hP_2 => ?_)
  obtain ⟨hP_2, hP_2b⟩ := hP_2
  rw [hP_2, hP_2b]
  clear hP_2 hP_2b r9 u9
  refine v_topi (b := sumM g 4) C (rfl) ?_
  refine v_iadd (pc := 10) C dX7_share_10 ?_
  refine v_aload_n (pc := 11) C 0 rfl rfl dX7_share_11 ?_
  refine v_iconst (pc := 12) C dX7_share_12 ?_
  refine v_calliV (pc := 13) C cw_RX7_160 rcv_14 (ct_X7_sum l L g 5 (by first | assumption | omega)) ⟨Nat.le_of_ble_eq_true rfl, Nat.le_of_ble_eq_true rfl⟩ rfl (Nat.le_of_ble_eq_true rfl) ⟨Nat.le_of_ble_eq_true rfl, Nat.le_of_ble_eq_true rfl⟩ rfl dX7_share_13 (fun r9 u9 hP_3 => ?_)
  obtain ⟨hP_3, hP_3b⟩ := hP_3
  rw [hP_3, hP_3b]
  clear hP_3 hP_3b r9 u9
  refine v_topi (b := sumM g 5) C (rfl) ?_
  refine v_iadd (pc := 16) C dX7_share_16 ?_
  refine v_istore_n (pc := 17) C [(1, .int (iI (((sumM g 3) + (sumM g 4)) + (sumM g 5)))), (0, .ref (adr L 14 0 0))] rfl (by decide) rfl dX7_share_17 ?_
  refine v_iload_n (pc := 18) C 0 rfl rfl dX7_share_18 ?_
  refine v_if_ne (pc := 19) C 26 ⟨by (first | assumption | omega), by (first | assumption | omega)⟩ (by decide) dX7_share_19 (fun h19 => ?_) (fun h19 => ?_)
  · skip
    refine v_aload_n (pc := 26) C 1 rfl rfl dX7_share_26 ?_
    refine v_iconst (pc := 27) C dX7_share_27 ?_
    refine v_calliV (pc := 28) C cw_RX7_160 rcv_14 (ct_X7_sum l L g 3 (by first | assumption | omega)) ⟨Nat.le_of_ble_eq_true rfl, Nat.le_of_ble_eq_true rfl⟩ rfl (Nat.le_of_ble_eq_true rfl) ⟨Nat.le_of_ble_eq_true rfl, Nat.le_of_ble_eq_true rfl⟩ rfl dX7_share_28 (fun r9 u9 hP_4 => ?_)
    obtain ⟨hP_4, hP_4b⟩ := hP_4
    rw [hP_4, hP_4b]
    clear hP_4 hP_4b r9 u9
    refine v_topi (b := sumM g 3) C (rfl) ?_
    refine v_i2d (pc := 31) C dX7_share_31 ?_
    refine v_iload_n (pc := 32) C 0 rfl rfl dX7_share_32 ?_
    refine v_i2d (pc := 33) C dX7_share_33 ?_
    refine v_ddiv (pc := 34) C (by have hn := sh_nn (a := sumM g 3) (b := sumM g 3 + sumM g 4 + sumM g 5) (by omega) (by omega) (by omega); unfold shD at hn; rw [if_pos (by omega)] at hn; exact hn) dX7_share_34 ?_
    exact v_dret (pc := 35) C hr hlk (⟨by unfold shMM shD; first | rw [if_pos (by omega)] | rw [if_neg (by omega)], rfl⟩) dX7_share_35
  · skip
    refine v_dconst1 (pc := 22) C dX7_share_22 ?_
    refine v_goto (pc := 23) C 35 (by decide) dX7_share_23 ?_
    exact v_dret (pc := 35) C hr hlk (⟨by unfold shMM shD; first | rw [if_pos (by omega)] | rw [if_neg (by omega)], rfl⟩) dX7_share_35
set_option maxHeartbeats 4000000 in
set_option maxRecDepth 100000 in
theorem ct_X7_answeredShare (l : Launch) (L : Lay) (g : St) (hs3 : 0 ≤ sumM g 3 ∧ sumM g 3 ≤ 300000000) (hs4 : 0 ≤ sumM g 4 ∧ sumM g 4 ≤ 300000000) (hs5 : 0 ≤ sumM g 5 ∧ sumM g 5 ≤ 300000000) : Met l yX7_answeredShare (.code yX7_answeredShare cX7_answeredShare 1 (some .double) :: wsL_law) { frames := 3, cells := 0, slots := 0, locals := 66 } (va_Pc [.ref (adr L 14 0 0)] (HS L g)) (va_Qd (fun (r9 : UInt64) (u9 : St) => r9 = (shMM (t0 g)) ∧ u9 = (up g 14 0 0 0 0)) (fun u t => HS L u t) (Af L)) 0 0 (Af L) := by
  refine ct_mk (by decide +kernel) (Nat.le_of_ble_eq_true rfl) ?_
  intro pp ee ss mm bel mth cx C hr hlk
  show V pp l ee { frames := 3, cells := 0, slots := 0, locals := 66 } ss mm ([.ref (adr L 14 0 0)]).toArray bel mth cx 1 L (HH L g) 0 0 _ 0 [(0, .ref (adr L 14 0 0))] []
  have e3 := e_sumM (t0_f (g := g) (show (15 : Nat) ≠ 14 by decide)) 3
  have e4 := e_sumM (t0_f (g := g) (show (15 : Nat) ≠ 14 by decide)) 4
  have e5 := e_sumM (t0_f (g := g) (show (15 : Nat) ≠ 14 by decide)) 5
  refine v_aload_n (pc := 0) C 0 rfl rfl dX7_answeredShare_0 ?_
  refine v_iconst (pc := 1) C dX7_answeredShare_1 ?_
  refine pt_14_0 (pc := 2) C u_8_10 dX7_answeredShare_2 ?_
  refine v_st (g2 := t0 g) C (rfl) ?_
  refine v_aload_n (pc := 5) C 0 rfl rfl dX7_answeredShare_5 ?_
  refine v_calldV (pc := 6) C cw_RX7_190 rcv_14 (ct_X7_share l L (t0 g) (by first | assumption | omega) (by first | assumption | omega) (by first | assumption | omega)) ⟨Nat.le_of_ble_eq_true rfl, Nat.le_of_ble_eq_true rfl⟩ rfl (Nat.le_of_ble_eq_true rfl) ⟨Nat.le_of_ble_eq_true rfl, Nat.le_of_ble_eq_true rfl⟩ rfl dX7_answeredShare_6 (fun r9 u9 hP_1 => ?_)
  obtain ⟨hP_1, hP_1b⟩ := hP_1
  rw [hP_1, hP_1b]
  clear hP_1 hP_1b r9 u9
  exact v_dret (pc := 9) C hr hlk (⟨rfl, by rfl⟩) dX7_answeredShare_9
set_option maxHeartbeats 4000000 in
set_option maxRecDepth 100000 in
theorem ct_Jxe99ae_isNaN_b9ae7 (l : Launch) (L : Lay) (g : St) (x : UInt64) (hx : FP.Core.val64 x ≠ .nan) : Met l yJxe99ae_isNaN_b9ae7 (.code yJxe99ae_isNaN_b9ae7 cJxe99ae_isNaN_b9ae7 2 (some .boolean) :: wsL_law) { frames := 0, cells := 0, slots := 0, locals := 0 } (va_Pc [.double x] (HS L g)) (va_Qi (fun (r9 : Int32) (u9 : St) => r9 = iI 0 ∧ u9 = g) (fun u t => HS L u t) (Af L)) 0 0 (Af L) := by
  refine ct_mk (by decide +kernel) (Nat.le_of_ble_eq_true rfl) ?_
  intro pp ee ss mm bel mth cx C hr hlk
  show V pp l ee { frames := 0, cells := 0, slots := 0, locals := 0 } ss mm ([.double x]).toArray bel mth cx 2 L (HH L g) 0 0 _ 0 [(0, .double x)] []
  refine v_dload_n (pc := 0) C 0 rfl rfl dJxe99ae_isNaN_b9ae7_0 ?_
  refine v_dload_n (pc := 1) C 0 rfl rfl dJxe99ae_isNaN_b9ae7_1 ?_
  refine v_dcmp (pc := 2) (z := 0) C (by rw [show FP.dcmp x x = some .eq from FP.Core.dcmp_refl ((FP.Core.notNaN_iff x).mpr hx)]; decide) dJxe99ae_isNaN_b9ae7_2 ?_
  refine v_if_eq (pc := 3) C 10 ⟨by (first | assumption | omega | decide), by (first | assumption | omega | decide)⟩ (by decide) dJxe99ae_isNaN_b9ae7_3 (fun h3 => ?_) (fun h3 => ?_)
  · skip
    refine v_iconst (pc := 10) C dJxe99ae_isNaN_b9ae7_10 ?_
    exact v_zret (pc := 11) C hr hlk (by first | assumption | omega | decide) (⟨rfl, rfl⟩) dJxe99ae_isNaN_b9ae7_11
  · skip
    exfalso; omega
set_option maxHeartbeats 4000000 in
set_option maxRecDepth 100000 in
theorem ct_Jxe99ae_doubleToLongBits_ccdee (l : Launch) (L : Lay) (g : St) (x : UInt64) (hx : FP.Core.val64 x ≠ .nan) : Met l yJxe99ae_doubleToLongBits_ccdee (.code yJxe99ae_doubleToLongBits_ccdee cJxe99ae_doubleToLongBits_ccdee 2 (some .long) :: wsL_law) { frames := 1, cells := 0, slots := 0, locals := 23 } (va_Pc [.double x] (HS L g)) (va_Ql (fun (r9 : Int64) (u9 : St) => r9 = lI (x.toNat : Int) ∧ u9 = g) (fun u t => HS L u t) (Af L)) 0 0 (Af L) := by
  refine ct_mk (by decide +kernel) (Nat.le_of_ble_eq_true rfl) ?_
  intro pp ee ss mm bel mth cx C hr hlk
  show V pp l ee { frames := 1, cells := 0, slots := 0, locals := 23 } ss mm ([.double x]).toArray bel mth cx 2 L (HH L g) 0 0 _ 0 [(0, .double x)] []
  refine v_dload_n (pc := 0) C 0 rfl rfl dJxe99ae_doubleToLongBits_ccdee_0 ?_
  refine v_calliS (pc := 1) C cw_RJxe99ae_122 (ct_Jxe99ae_isNaN_b9ae7 l L g x (by first | assumption | omega | decide)) ⟨Nat.le_of_ble_eq_true rfl, Nat.le_of_ble_eq_true rfl⟩ rfl (Nat.le_of_ble_eq_true rfl) ⟨Nat.le_of_ble_eq_true rfl, Nat.le_of_ble_eq_true rfl⟩ rfl dJxe99ae_doubleToLongBits_ccdee_1 (fun r9 u9 hP_1 => ?_)
  obtain ⟨hP_1, hP_1b⟩ := hP_1
  rw [hP_1, hP_1b]
  clear hP_1 hP_1b r9 u9
  refine v_if_ne (pc := 4) C 12 ⟨by (first | assumption | omega | decide), by (first | assumption | omega | decide)⟩ (by decide) dJxe99ae_doubleToLongBits_ccdee_4 (fun h4 => ?_) (fun h4 => ?_)
  · skip
    exfalso; omega
  · skip
    refine v_dload_n (pc := 7) C 0 rfl rfl dJxe99ae_doubleToLongBits_ccdee_7 ?_
    refine v_rawl (pc := 8) (z := (x.toNat : Int)) C (fl_long x) u_36_0 u_36_1 u_36_2 u_36_3 (Nat.le_of_ble_eq_true rfl) (Nat.le_of_ble_eq_true rfl) dJxe99ae_doubleToLongBits_ccdee_8 ?_
    exact v_lret (pc := 11) C hr hlk (⟨rfl, rfl⟩) dJxe99ae_doubleToLongBits_ccdee_11
set_option maxHeartbeats 4000000 in
set_option maxRecDepth 100000 in
theorem ct_X7_mix (l : Launch) (L : Lay) (g : St) (v : Int)  : Met l yX7_mix (.code yX7_mix cX7_mix 3 none :: wsL_law) { frames := 0, cells := 0, slots := 0, locals := 0 } (va_Pc [.ref (adr L 14 0 0), .long (lI v)] (HS L g)) (va_Qv (fun (u9 : St) => u9 = (up g 14 0 0 14 (31 * g 14 0 0 14 + v))) (fun u t => HS L u t) (Af L)) 0 0 (Af L) := by
  refine ct_mk (by decide +kernel) (Nat.le_of_ble_eq_true rfl) ?_
  intro pp ee ss mm bel mth cx C hr hlk
  show V pp l ee { frames := 0, cells := 0, slots := 0, locals := 0 } ss mm ([.ref (adr L 14 0 0), .long (lI v)]).toArray bel mth cx 3 L (HH L g) 0 0 _ 0 [(0, .ref (adr L 14 0 0)), (1, .long (lI v))] []
  refine v_aload_n (pc := 0) C 0 rfl rfl dX7_mix_0 ?_
  refine v_ldc2 (pc := 1) (z := 31) C (by decide +kernel) u_35_15 dX7_mix_1 ?_
  refine v_aload_n (pc := 4) C 0 rfl rfl dX7_mix_4 ?_
  refine gt_14_14 (pc := 5) C u_35_10 dX7_mix_5 (g 14 0 0 14) (rfl) ?_
  refine v_lmul (pc := 8) C dX7_mix_8 ?_
  refine v_lload_n (pc := 9) C 1 rfl rfl dX7_mix_9 ?_
  refine v_ladd (pc := 10) C dX7_mix_10 ?_
  refine pt_14_14 (pc := 11) C u_35_10 dX7_mix_11 ?_
  exact v_vret (pc := 14) C hr hlk (by rfl) dX7_mix_14
set_option maxHeartbeats 4000000 in
set_option maxRecDepth 100000 in
theorem ct_X7_mixPlayer (l : Launch) (L : Lay) (g : St) (d p : Int) (hm : wm (g 15 0 0) d) (hd : 0 ≤ d ∧ d ≤ 1) (hp : 0 ≤ p ∧ p < 4) (hcm : ctM g) : Met l yX7_mixPlayer (.code yX7_mixPlayer cX7_mixPlayer 3 none :: wsL_law) { frames := 5, cells := 0, slots := 0, locals := 117 } (va_Pc [.ref (adr L 14 0 0), .int (iI p)] (HS L g)) (va_Qv (fun (u9 : St) => u9 = (uH g (mpH g p (g 14 0 0 14)))) (fun u t => HS L u t) (Af L)) 0 0 (Af L) := by
  refine ct_mk (by decide +kernel) (Nat.le_of_ble_eq_true rfl) ?_
  intro pp ee ss mm bel mth cx C hr hlk
  show V pp l ee { frames := 5, cells := 0, slots := 0, locals := 117 } ss mm ([.ref (adr L 14 0 0), .int (iI p)]).toArray bel mth cx 3 L (HH L g) 0 0 _ 0 [(0, .ref (adr L 14 0 0)), (1, .int (iI p))] []
  obtain ⟨mS0, mS1, mS2, mB0, mB1, mB2, mCl, mN, mPl, mEc⟩ := id hm
  have hpl := mPl p hp.1 hp.2
  have e15 := fun h => uH_15 g h
  have emp : ∀ i, 0 ≤ i → i < 7 → rg (mpl g p i) := fun i h0 h7 => mpl_rg hm hcm hp ⟨h0, by omega⟩
  have ebw := mBw_rg g p
  have ed := fun w => (mDl_in (w := w) hm hpl)
  refine v_iconst (pc := 0) C dX7_mixPlayer_0 ?_
  refine v_istore_n (pc := 1) C [(2, .int (iI 0)), (0, .ref (adr L 14 0 0)), (1, .int (iI p))] rfl (by decide) rfl dX7_mixPlayer_1 ?_
  have lb2 : ∀ (n9 : Nat) (i : Int), (0 ≤ i ∧ i ≤ 7) → (7 - i).toNat < n9 → V pp l ee { frames := 5, cells := 0, slots := 0, locals := 117 } ss mm ([.ref (adr L 14 0 0), .int (iI p)]).toArray bel mth cx 3 L (HH L (uH g (hs (fun w => mpl g p w) i.toNat (g 14 0 0 14)))) 0 0 (MQ bel (va_Qv (fun (u9 : St) => u9 = (uH g (mpH g p (g 14 0 0 14)))) (fun u t => HS L u t) (Af L)) ([.ref (adr L 14 0 0), .int (iI p)]).toArray ss 0 0 (Af L)) 2 [(0, .ref (adr L 14 0 0)), (1, .int (iI p)), (2, .int (iI i))] [] := by
    intro n9
    induction n9 with
    | zero => intro i hi hm9; exact absurd hm9 (Nat.not_lt_zero _)
    | succ n9 ih9 =>
      intro i hi hm9
      have ih2 := ih9
      refine v_iload_n (pc := 2) C 2 rfl rfl dX7_mixPlayer_2 ?_
      refine v_bipush (pc := 3) C rfl dX7_mixPlayer_3 ?_
      refine v_icmp_ge (pc := 5) C 25 ⟨by (first | assumption | exact hri.1 | exact hri.2 | omega), by (first | assumption | exact hri.1 | exact hri.2 | omega)⟩ ⟨by (first | assumption | exact hri.1 | exact hri.2 | omega), by (first | assumption | exact hri.1 | exact hri.2 | omega)⟩ (by decide) dX7_mixPlayer_5 (fun h5 => ?_) (fun h5 => ?_)
      · skip
        refine v_iconst (pc := 25) C dX7_mixPlayer_25 ?_
        refine v_istore_n (pc := 26) C [(2, .int (iI 0)), (0, .ref (adr L 14 0 0)), (1, .int (iI p))] rfl (by decide) rfl dX7_mixPlayer_26 ?_
        have lb27 : ∀ (n9 : Nat) (i : Int), (0 ≤ i ∧ i ≤ 2) → (2 - i).toNat < n9 → V pp l ee { frames := 5, cells := 0, slots := 0, locals := 117 } ss mm ([.ref (adr L 14 0 0), .int (iI p)]).toArray bel mth cx 3 L (HH L (uH g (mp2 g p i.toNat (hs (fun w => mpl g p w) 7 (g 14 0 0 14))))) 0 0 (MQ bel (va_Qv (fun (u9 : St) => u9 = (uH g (mpH g p (g 14 0 0 14)))) (fun u t => HS L u t) (Af L)) ([.ref (adr L 14 0 0), .int (iI p)]).toArray ss 0 0 (Af L)) 27 [(0, .ref (adr L 14 0 0)), (1, .int (iI p)), (2, .int (iI i))] [] := by
          intro n9
          induction n9 with
          | zero => intro i hi hm9; exact absurd hm9 (Nat.not_lt_zero _)
          | succ n9 ih9 =>
            intro i hi hm9
            have ih27 := ih9
            refine v_iload_n (pc := 27) C 2 rfl rfl dX7_mixPlayer_27 ?_
            refine v_iconst (pc := 28) C dX7_mixPlayer_28 ?_
            refine v_icmp_ge (pc := 29) C 68 ⟨by (first | assumption | exact hri.1 | exact hri.2 | omega), by (first | assumption | exact hri.1 | exact hri.2 | omega)⟩ ⟨by (first | assumption | exact hri.1 | exact hri.2 | omega), by (first | assumption | exact hri.1 | exact hri.2 | omega)⟩ (by decide) dX7_mixPlayer_29 (fun h29 => ?_) (fun h29 => ?_)
            · skip
              refine v_aload_n (pc := 68) C 0 rfl rfl dX7_mixPlayer_68 ?_
              refine v_aload_n (pc := 69) C 0 rfl rfl dX7_mixPlayer_69 ?_
              refine v_iload_n (pc := 70) C 1 rfl rfl dX7_mixPlayer_70 ?_
              refine v_calliV (pc := 71) C cw_RX7_181 rcv_14 (ct_X7_bestWait l L (uH g (mp2 g p i.toNat (hs (fun w => mpl g p w) 7 (g 14 0 0 14)))) d p (by exact e_wm (e15 _) hm) (by first | assumption | exact hri.1 | exact hri.2 | omega) (by first | assumption | exact hri.1 | exact hri.2 | omega)) ⟨Nat.le_of_ble_eq_true rfl, Nat.le_of_ble_eq_true rfl⟩ rfl (Nat.le_of_ble_eq_true rfl) ⟨Nat.le_of_ble_eq_true rfl, Nat.le_of_ble_eq_true rfl⟩ rfl dX7_mixPlayer_71 (fun r9 u9 hP_1 => ?_)
              obtain ⟨hP_1, hP_1b⟩ := hP_1
              rw [hP_1, hP_1b]
              clear hP_1 hP_1b r9 u9
              refine v_topi (b := mBw g p) C (e_mBw (e15 _) p) ?_
              refine v_i2l (pc := 74) C ⟨by (first | assumption | exact hri.1 | exact hri.2 | omega), by (first | assumption | exact hri.1 | exact hri.2 | omega)⟩ dX7_mixPlayer_74 ?_
              refine v_callvV (pc := 75) C cw_RX7_200 rcv_14 (ct_X7_mix l L (uH g (mp2 g p i.toNat (hs (fun w => mpl g p w) 7 (g 14 0 0 14)))) (mBw g p) ) ⟨Nat.le_of_ble_eq_true rfl, Nat.le_of_ble_eq_true rfl⟩ rfl (Nat.le_of_ble_eq_true rfl) ⟨Nat.le_of_ble_eq_true rfl, Nat.le_of_ble_eq_true rfl⟩ rfl dX7_mixPlayer_75 (fun u9 hP_2 => ?_)
              rw [hP_2]
              clear hP_2 u9
              exact v_vret (pc := 78) C hr hlk (by rw [uH_uH, uH_h]; unfold mpH; rw [show i.toNat = 2 by omega]) dX7_mixPlayer_78
            · skip
              refine v_aload_n (pc := 32) C 0 rfl rfl dX7_mixPlayer_32 ?_
              refine v_aload_n (pc := 33) C 0 rfl rfl dX7_mixPlayer_33 ?_
              refine v_iload_n (pc := 34) C 1 rfl rfl dX7_mixPlayer_34 ?_
              refine v_iload_n (pc := 35) C 2 rfl rfl dX7_mixPlayer_35 ?_
              refine v_calliV (pc := 36) C cw_RX7_172 rcv_14 (ct_X7_delayOf l L (uH g (mp2 g p i.toNat (hs (fun w => mpl g p w) 7 (g 14 0 0 14)))) d p i (by exact e_wm (e15 _) hm) (by first | assumption | exact hri.1 | exact hri.2 | omega) (by first | assumption | exact hri.1 | exact hri.2 | omega)) ⟨Nat.le_of_ble_eq_true rfl, Nat.le_of_ble_eq_true rfl⟩ rfl (Nat.le_of_ble_eq_true rfl) ⟨Nat.le_of_ble_eq_true rfl, Nat.le_of_ble_eq_true rfl⟩ rfl dX7_mixPlayer_36 (fun r9 u9 hP_3 => ?_)
              obtain ⟨hP_3, hP_3b⟩ := hP_3
              rw [hP_3, hP_3b]
              clear hP_3 hP_3b r9 u9
              refine v_topi (b := mD1 g p i) C (e_mD1 (e15 _) p i) ?_
              have hdi : 1 ≤ mD1 g p i ∧ mD1 g p i ≤ 100 := ed i
              refine v_i2l (pc := 39) C ⟨by (first | assumption | exact hri.1 | exact hri.2 | omega), by (first | assumption | exact hri.1 | exact hri.2 | omega)⟩ dX7_mixPlayer_39 ?_
              refine v_callvV (pc := 40) C cw_RX7_200 rcv_14 (ct_X7_mix l L (uH g (mp2 g p i.toNat (hs (fun w => mpl g p w) 7 (g 14 0 0 14)))) (mD1 g p i) ) ⟨Nat.le_of_ble_eq_true rfl, Nat.le_of_ble_eq_true rfl⟩ rfl (Nat.le_of_ble_eq_true rfl) ⟨Nat.le_of_ble_eq_true rfl, Nat.le_of_ble_eq_true rfl⟩ rfl dX7_mixPlayer_40 (fun u9 hP_4 => ?_)
              rw [hP_4]
              clear hP_4 u9
              refine v_aload_n (pc := 43) C 0 rfl rfl dX7_mixPlayer_43 ?_
              refine v_aload_n (pc := 44) C 0 rfl rfl dX7_mixPlayer_44 ?_
              refine v_iload_n (pc := 45) C 1 rfl rfl dX7_mixPlayer_45 ?_
              refine v_iload_n (pc := 46) C 2 rfl rfl dX7_mixPlayer_46 ?_
              refine v_iconst (pc := 47) C dX7_mixPlayer_47 ?_
              refine v_calliV (pc := 48) C cw_RX7_175 rcv_14 (ct_X7_isClash l L (up (uH g (mp2 g p i.toNat (hs (fun w => mpl g p w) 7 (g 14 0 0 14)))) 14 0 0 14 (31 * (uH g (mp2 g p i.toNat (hs (fun w => mpl g p w) 7 (g 14 0 0 14)))) 14 0 0 14 + (mD1 g p i))) d p i 0 (by exact e_wm (up_ff (by decide)) (e_wm (e15 _) hm)) (by first | assumption | exact hri.1 | exact hri.2 | omega) (by first | assumption | exact hri.1 | exact hri.2 | omega) (by first | assumption | exact hri.1 | exact hri.2 | omega) (by first | assumption | exact hri.1 | exact hri.2 | omega)) ⟨Nat.le_of_ble_eq_true rfl, Nat.le_of_ble_eq_true rfl⟩ rfl (Nat.le_of_ble_eq_true rfl) ⟨Nat.le_of_ble_eq_true rfl, Nat.le_of_ble_eq_true rfl⟩ rfl dX7_mixPlayer_48 (fun r9 u9 hP_5 => ?_)
              obtain ⟨hP_5, hP_5b⟩ := hP_5
              rw [hP_5, hP_5b]
              clear hP_5 hP_5b r9 u9
              refine v_if_eq (pc := 51) C 58 z1_rg (by decide) dX7_mixPlayer_51 (fun h51 => ?_) (fun h51 => ?_)
              · skip
                have h51c := z1_eqt h51
                refine v_lconst (pc := 58) (z := 0) C rfl dX7_mixPlayer_58 ?_
                refine v_callvV (pc := 59) C cw_RX7_200 rcv_14 (ct_X7_mix l L (up (uH g (mp2 g p i.toNat (hs (fun w => mpl g p w) 7 (g 14 0 0 14)))) 14 0 0 14 (31 * (uH g (mp2 g p i.toNat (hs (fun w => mpl g p w) 7 (g 14 0 0 14)))) 14 0 0 14 + (mD1 g p i))) 0 ) ⟨Nat.le_of_ble_eq_true rfl, Nat.le_of_ble_eq_true rfl⟩ rfl (Nat.le_of_ble_eq_true rfl) ⟨Nat.le_of_ble_eq_true rfl, Nat.le_of_ble_eq_true rfl⟩ rfl dX7_mixPlayer_59 (fun u9 hP_6 => ?_)
                rw [hP_6]
                clear hP_6 u9
                refine v_iinc (pc := 62) C 2 [(2, .int (iI (i + 1))), (0, .ref (adr L 14 0 0)), (1, .int (iI p))] rfl (by decide) rfl dX7_mixPlayer_62 ?_
                refine v_goto (pc := 65) C 27 (by decide) dX7_mixPlayer_65 ?_
                refine v_lsub [1, 2, 0] rfl ?_
                refine v_st (g2 := uH g (mp2 g p (i + 1).toNat (hs (fun w => mpl g p w) 7 (g 14 0 0 14)))) C (by rw [uH_uH, uH_h, uH_uH, uH_h, mp2_s _ _ hi.1]; (first | rw [if_pos ((e_mIs (e15 _) p i 0).mp ((e_mIs (up_ff (by decide)) p i 0).mp h51c))] | rw [if_neg (fun hx => h51c ((e_mIs (up_ff (by decide)) p i 0).mpr ((e_mIs (e15 _) p i 0).mpr hx)))]); exact uH_uH _ _ _) ?_
                exact ih27 (i + 1) (by omega) (by omega)
              · skip
                have h51c := z1_eqf h51
                refine v_lconst (pc := 54) (z := 1) C rfl dX7_mixPlayer_54 ?_
                refine v_goto (pc := 55) C 59 (by decide) dX7_mixPlayer_55 ?_
                refine v_callvV (pc := 59) C cw_RX7_200 rcv_14 (ct_X7_mix l L (up (uH g (mp2 g p i.toNat (hs (fun w => mpl g p w) 7 (g 14 0 0 14)))) 14 0 0 14 (31 * (uH g (mp2 g p i.toNat (hs (fun w => mpl g p w) 7 (g 14 0 0 14)))) 14 0 0 14 + (mD1 g p i))) 1 ) ⟨Nat.le_of_ble_eq_true rfl, Nat.le_of_ble_eq_true rfl⟩ rfl (Nat.le_of_ble_eq_true rfl) ⟨Nat.le_of_ble_eq_true rfl, Nat.le_of_ble_eq_true rfl⟩ rfl dX7_mixPlayer_59 (fun u9 hP_7 => ?_)
                rw [hP_7]
                clear hP_7 u9
                refine v_iinc (pc := 62) C 2 [(2, .int (iI (i + 1))), (0, .ref (adr L 14 0 0)), (1, .int (iI p))] rfl (by decide) rfl dX7_mixPlayer_62 ?_
                refine v_goto (pc := 65) C 27 (by decide) dX7_mixPlayer_65 ?_
                refine v_lsub [1, 2, 0] rfl ?_
                refine v_st (g2 := uH g (mp2 g p (i + 1).toNat (hs (fun w => mpl g p w) 7 (g 14 0 0 14)))) C (by rw [uH_uH, uH_h, uH_uH, uH_h, mp2_s _ _ hi.1]; (first | rw [if_pos ((e_mIs (e15 _) p i 0).mp ((e_mIs (up_ff (by decide)) p i 0).mp h51c))] | rw [if_neg (fun hx => h51c ((e_mIs (up_ff (by decide)) p i 0).mpr ((e_mIs (e15 _) p i 0).mpr hx)))]); exact uH_uH _ _ _) ?_
                exact ih27 (i + 1) (by omega) (by omega)
        refine v_lsub [1, 2, 0] rfl ?_
        refine v_st (g2 := uH g (mp2 g p (0 : Int).toNat (hs (fun w => mpl g p w) 7 (g 14 0 0 14)))) C (by rw [show i = 7 by omega]; rfl) ?_
        exact lb27 _ 0 (by omega) (Nat.lt_succ_self _)
      · skip
        refine v_aload_n (pc := 8) C 0 rfl rfl dX7_mixPlayer_8 ?_
        refine v_aload_n (pc := 9) C 0 rfl rfl dX7_mixPlayer_9 ?_
        refine v_iload_n (pc := 10) C 1 rfl rfl dX7_mixPlayer_10 ?_
        refine v_iload_n (pc := 11) C 2 rfl rfl dX7_mixPlayer_11 ?_
        refine v_calliV (pc := 12) C cw_RX7_151 rcv_14 (ct_X7_tellsPlayer l L (uH g (hs (fun w => mpl g p w) i.toNat (g 14 0 0 14))) d p i (by exact e_wm (e15 _) hm) (by first | assumption | exact hri.1 | exact hri.2 | omega) (by first | assumption | exact hri.1 | exact hri.2 | omega) (by first | assumption | exact hri.1 | exact hri.2 | omega)) ⟨Nat.le_of_ble_eq_true rfl, Nat.le_of_ble_eq_true rfl⟩ rfl (Nat.le_of_ble_eq_true rfl) ⟨Nat.le_of_ble_eq_true rfl, Nat.le_of_ble_eq_true rfl⟩ rfl dX7_mixPlayer_12 (fun r9 u9 hP_8 => ?_)
        obtain ⟨hP_8, hP_8b⟩ := hP_8
        rw [hP_8, hP_8b]
        clear hP_8 hP_8b r9 u9
        refine v_topi (b := mpl g p i) C (e_mpl (e15 _) p i) ?_
        have hri := emp i (by omega) (by omega)
        refine v_i2l (pc := 15) C ⟨by (first | assumption | exact hri.1 | exact hri.2 | omega), by (first | assumption | exact hri.1 | exact hri.2 | omega)⟩ dX7_mixPlayer_15 ?_
        refine v_callvV (pc := 16) C cw_RX7_200 rcv_14 (ct_X7_mix l L (uH g (hs (fun w => mpl g p w) i.toNat (g 14 0 0 14))) (mpl g p i) ) ⟨Nat.le_of_ble_eq_true rfl, Nat.le_of_ble_eq_true rfl⟩ rfl (Nat.le_of_ble_eq_true rfl) ⟨Nat.le_of_ble_eq_true rfl, Nat.le_of_ble_eq_true rfl⟩ rfl dX7_mixPlayer_16 (fun u9 hP_9 => ?_)
        rw [hP_9]
        clear hP_9 u9
        refine v_iinc (pc := 19) C 2 [(2, .int (iI (i + 1))), (0, .ref (adr L 14 0 0)), (1, .int (iI p))] rfl (by decide) rfl dX7_mixPlayer_19 ?_
        refine v_goto (pc := 22) C 2 (by decide) dX7_mixPlayer_22 ?_
        refine v_lsub [1, 2, 0] rfl ?_
        refine v_st (g2 := uH g (hs (fun w => mpl g p w) (i + 1).toNat (g 14 0 0 14))) C (by rw [uH_uH, uH_h, hs_s _ hi.1]) ?_
        exact ih2 (i + 1) (by omega) (by omega)
  refine v_lsub [1, 2, 0] rfl ?_
  refine v_st (g2 := uH g (hs (fun w => mpl g p w) (0 : Int).toNat (g 14 0 0 14))) C (by exact (up_se g).symm) ?_
  exact lb2 _ 0 (by omega) (Nat.lt_succ_self _)
