/-! the reference: a turn -/
/-- what an echo back leaves -/
def fz (g u : St) : Prop := wm (u 15 0 0) 0 ∧ (∀ x, (x ≤ 4 ∨ x = 9 ∨ 34 ≤ x) → u 15 0 0 x = g 15 0 0 x) ∧ ∀ f : Nat, f ≠ 15 → u f = g f
theorem fz_re {g : St} (h : wm (g 15 0 0) 0) : fz g g := ⟨h, fun _ _ => rfl, fun _ _ => rfl⟩
theorem fz_tr {g u w : St} (h : fz g u) (h2 : fz u w) : fz g w := ⟨h2.1, fun x hx => (h2.2.1 x hx).trans (h.2.1 x hx), fun f hf => (h2.2.2 f hf).trans (h.2.2 f hf)⟩
theorem wm_eq {s t : Int → Int} {d : Int} (h : wm s d) (h5 : 1 ≤ t 5 ∧ t 5 ≤ 9) (h6 : t 6 = 0 ∨ t 6 = 1) (hp : ∀ p, 0 ≤ p → p < 4 → t (10 + 6 * p + 0) = s (10 + 6 * p + 0)) (hx : ∀ x, (x ≤ 4 ∨ x = 9 ∨ 34 ≤ x) → t x = s x) : wm t d := by
  obtain ⟨mS0, mS1, mS2, mB0, mB1, mB2, mCl, mN, mPl, mEc⟩ := h
  unfold wm
  rw [hx 0 (by decide), hx 1 (by decide), hx 2 (by decide), hx 3 (by decide), hx 4 (by decide), hx 9 (by decide)]
  refine ⟨mS0, mS1, mS2, mB0, h5, h6, mCl, mN, fun p h0 h4 => by rw [hp p h0 h4]; exact mPl p h0 h4, fun e h0 h1 => ?_⟩
  exact okM_of (mEc e h0 h1) (hx 0 (by decide)) (hx 3 (by decide)) (fun x h0 h5 => hx _ (by omega))
theorem fz_cb {g : St} {e a : Int} (h : wm (g 15 0 0) 0) (he : 0 ≤ e ∧ e < g 15 0 0 9) : fz g (cbG g e a) := by
  obtain ⟨mS0, mS1, mS2, mB0, mB1, mB2, mCl, mN, mPl, mEc⟩ := id h
  have hk := cbK_in g e a
  have hee := mEc e he.1 he.2
  unfold okM at hee
  have c1 : ∀ x : Int, x ≠ 10 + 6 * g 15 0 0 (34 + 5 * e + 0) + cbK g e a → cb1 g e a 15 0 0 x = g 15 0 0 x := fun x hx => cb1_i hx
  have c2 : ∀ x : Int, x ≠ 10 + 6 * g 15 0 0 (34 + 5 * e + 0) + cbK g e a → x ≠ 10 + 6 * g 15 0 0 (34 + 5 * e + 0) + 1 → cb2 g e a 15 0 0 x = g 15 0 0 x := fun x hx h1 => cb2_i hx h1
  unfold cbG; split
  · refine ⟨wm_eq h (by rw [up_i (by decide), up_s]; exact fwS_in mB1) (by rw [up_s]; exact fwR_in mB2) (fun p h0 h4 => by rw [up_i (by omega), up_i (by omega), c2 _ (by omega) (by omega)]) (fun x hx => by rw [up_i (by omega), up_i (by omega), c2 _ (by omega) (by omega)]), fun x hx => by rw [up_i (by omega), up_i (by omega), c2 _ (by omega) (by omega)], fun f hf => by rw [up_ff hf, up_ff hf]; unfold cb2 cb1; rw [up_ff hf, up_ff hf]⟩
  · refine ⟨wm_eq h (by rw [c1 _ (by omega)]; exact mB1) (by rw [c1 _ (by omega)]; exact mB2) (fun p h0 h4 => by rw [c1 _ (by omega)]) (fun x hx => by rw [c1 _ (by omega)]), fun x hx => by rw [c1 _ (by omega)], fun f hf => by unfold cb1; rw [up_ff hf]⟩
def tpE (u : St) (p a : Int) : Nat → St × Int
  | 0 => (u, 0)
  | n + 1 => if u 15 0 0 (34 + 5 * (n : Int) + 1) = p ∧ u 15 0 0 (34 + 5 * (n : Int) + 3) = u 15 0 0 3 then (cbG (tpE u p a n).1 n a, (tpE u p a n).2 + cbR (tpE u p a n).1 n a) else tpE u p a n
def sg (u : St) (p : Int) : Int := if mCo u p (u 15 0 0 3) = 1 then 1 else 0
def tpP (h : St) : Nat → St × Int
  | 0 => (h, 0)
  | n + 1 => ((tpE (tpP h n).1 n (sg (tpP h n).1 n) (h 15 0 0 9).toNat).1, (tpP h n).2 + (tpE (tpP h n).1 n (sg (tpP h n).1 n) (h 15 0 0 9).toNat).2)
theorem cbR_01 (g : St) (e a : Int) : 0 ≤ cbR g e a ∧ cbR g e a ≤ 1 := by unfold cbR; split <;> decide
theorem tpE_in {u : St} {p a : Int} (h : wm (u 15 0 0) 0) : ∀ n : Nat, (n : Int) ≤ u 15 0 0 9 → fz u (tpE u p a n).1 ∧ 0 ≤ (tpE u p a n).2 ∧ (tpE u p a n).2 ≤ n
  | 0, _ => ⟨fz_re h, by simp [tpE], by simp [tpE]⟩
  | n + 1, hn => by
    have ih := tpE_in (p := p) (a := a) h n (by omega)
    have h9 := ih.1.2.1 9 (by omega)
    have hr := cbR_01 (tpE u p a n).1 n a
    rw [tpE]; split
    · exact ⟨fz_tr ih.1 (fz_cb ih.1.1 (by omega)), by show 0 ≤ (tpE u p a n).2 + _; omega, by show (tpE u p a n).2 + _ ≤ _; omega⟩
    · exact ⟨ih.1, by omega, by omega⟩
theorem tpP_in {h : St} (hw : wm (h 15 0 0) 0) : ∀ n : Nat, fz h (tpP h n).1 ∧ 0 ≤ (tpP h n).2 ∧ (tpP h n).2 ≤ 24 * n
  | 0 => ⟨fz_re hw, by simp [tpP], by simp [tpP]⟩
  | n + 1 => by
    have ih := tpP_in hw n
    have h9 := ih.1.2.1 9 (by omega)
    have hN := hw.2.2.2.2.2.2.2.1
    have he := tpE_in (p := n) (a := sg (tpP h n).1 n) ih.1.1 (h 15 0 0 9).toNat (by omega)
    rw [tpP]
    exact ⟨fz_tr ih.1 he.1, by show 0 ≤ (tpP h n).2 + _; omega, by show (tpP h n).2 + _ ≤ _; omega⟩
/-- the ball's way of a turn -/
def mtA (g : St) : St := up (up (up g 15 0 0 3 (g 15 0 0 3 + 1)) 14 0 0 12 (g 15 0 0 4)) 14 0 0 13 (g 15 0 0 6)
def mtB (g : St) : St := mbG (mtA g) (g 15 0 0 5).toNat
def mtC (g : St) : St := up (up (mtB g) 15 0 0 4 (mtB g 14 0 0 12)) 15 0 0 6 (mtB g 14 0 0 13)
theorem mtB_15 (g : St) : mtB g 15 = up g 15 0 0 3 (g 15 0 0 3 + 1) 15 := by unfold mtB mtA; rw [mbG_f _ _ (by decide), up_ff (by decide), up_ff (by decide)]
theorem mtB_b {g : St} {d : Int} (h : wm (g 15 0 0) d) : (0 ≤ mtB g 14 0 0 12 ∧ mtB g 14 0 0 12 ≤ g 15 0 0 0) ∧ (mtB g 14 0 0 13 = 0 ∨ mtB g 14 0 0 13 = 1) := by
  obtain ⟨mS0, mS1, mS2, mB0, mB1, mB2, -⟩ := h
  have hb := bwalk_in (last := g 15 0 0 0) (by omega) (q := (g 15 0 0 4, g 15 0 0 6)) mB0 mB2 (g 15 0 0 5).toNat
  have e1 : mtB g 14 0 0 12 = (bwalk (g 15 0 0 0) (g 15 0 0 5).toNat (g 15 0 0 4, g 15 0 0 6)).1 := by simp [mtB, mtA, mbG, up]
  have e2 : mtB g 14 0 0 13 = (bwalk (g 15 0 0 0) (g 15 0 0 5).toNat (g 15 0 0 4, g 15 0 0 6)).2 := by simp [mtB, mtA, mbG, up]
  rw [e1, e2]; exact hb
theorem mtC_x (g : St) {x : Int} (h3 : x ≠ 3) (h4 : x ≠ 4) (h6 : x ≠ 6) : mtC g 15 0 0 x = g 15 0 0 x := by
  unfold mtC; rw [up_i h6, up_i h4, mtB_15, up_i h3]
theorem mtC_3 (g : St) : mtC g 15 0 0 3 = g 15 0 0 3 + 1 := by
  unfold mtC; rw [up_i (by decide), up_i (by decide), mtB_15, up_s]
theorem wm_mt {g : St} (h : wm (g 15 0 0) 1) (hc : g 15 0 0 3 + 1 ≤ 100000) : wm (mtC g 15 0 0) 0 := by
  have hb := mtB_b h
  obtain ⟨mS0, mS1, mS2, mB0, mB1, mB2, mCl, mN, mPl, mEc⟩ := h
  have h4 : mtC g 15 0 0 4 = mtB g 14 0 0 12 := by unfold mtC; rw [up_i (by decide), up_s]
  have h6 : mtC g 15 0 0 6 = mtB g 14 0 0 13 := by unfold mtC; rw [up_s]
  unfold wm okM
  rw [mtC_x g (x := 0) (by decide) (by decide) (by decide), mtC_x g (x := 1) (by decide) (by decide) (by decide), mtC_x g (x := 2) (by decide) (by decide) (by decide), mtC_x g (x := 5) (by decide) (by decide) (by decide), mtC_x g (x := 9) (by decide) (by decide) (by decide), mtC_3, h4, h6]
  refine ⟨mS0, mS1, mS2, hb.1, mB1, hb.2, by omega, mN, fun p h0 h5 => by rw [mtC_x g (by omega) (by omega) (by omega)]; exact mPl p h0 h5, fun e h0 h1 => ?_⟩
  have := mEc e h0 h1
  unfold okM at this
  rw [mtC_x g (by omega) (by omega) (by omega), mtC_x g (by omega) (by omega) (by omega), mtC_x g (by omega) (by omega) (by omega), mtC_x g (by omega) (by omega) (by omega), mtC_x g (by omega) (by omega) (by omega)]
  omega
def tuM (g : St) : St × Int := (ddG (tpP (mtC g) (g 15 0 0 0 + 1).toNat).1, (tpP (mtC g) (g 15 0 0 0 + 1).toNat).2)

theorem cw_RX7_80 : CW RX7 80 RX7 yX7_comesBack cX7_comesBack 6 (some .boolean) 2 := ⟨u_16_7, u_16_8, u_16_9, u_1_5, u_16_10, by decide +kernel⟩
theorem cw_RX7_84 : CW RX7 84 RX7 yX7_dropDue cX7_dropDue 4 none 0 := ⟨u_16_15, u_16_16, u_16_17, u_1_5, u_16_18, by decide +kernel⟩
set_option maxHeartbeats 4000000 in
set_option maxRecDepth 100000 in
theorem ct_X7_turn (l : Launch) (L : Lay) (g : St) (hm : wm (g 15 0 0) 1) (hc : g 15 0 0 3 + 1 ≤ 100000) : Met l yX7_turn (.code yX7_turn cX7_turn 6 (some .int) :: wsL_law) { frames := 2, cells := 0, slots := 0, locals := 47 } (va_Pc [.ref (adr L 14 0 0)] (HS L g)) (va_Qi (fun (r9 : Int32) (u9 : St) => r9 = iI ((tuM g).2) ∧ u9 = (tuM g).1) (fun u t => HS L u t) (Af L)) 0 0 (Af L) := by
  refine ct_mk (by decide +kernel) (Nat.le_of_ble_eq_true rfl) ?_
  intro pp ee ss mm bel mth cx C hr hlk
  show V pp l ee { frames := 2, cells := 0, slots := 0, locals := 47 } ss mm ([.ref (adr L 14 0 0)]).toArray bel mth cx 6 L (HH L g) 0 0 _ 0 [(0, .ref (adr L 14 0 0))] []
  obtain ⟨mS0, mS1, mS2, mB0, mB1, mB2, mCl, mN, mPl, mEc⟩ := id hm
  have hmc := wm_mt hm hc
  have hmb := mtB_b hm
  have c0 := mtC_x g (x := 0) (by decide) (by decide) (by decide)
  have c9 := mtC_x g (x := 9) (by decide) (by decide) (by decide)
  have c3 := mtC_3 g
  have bx : ∀ x : Int, x ≠ 3 → mtA g 15 0 0 x = g 15 0 0 x := fun x hx => by (unfold mtA; rw [up_ff (by decide), up_ff (by decide), up_i hx])
  refine v_aload_n (pc := 0) C 0 rfl rfl dX7_turn_0 ?_
  refine gt_14_1 (pc := 1) C u_4_4 dX7_turn_1 ?_
  refine v_iconst (pc := 4) C dX7_turn_4 ?_
  refine v_dup2 (pc := 5) C rfl rfl dX7_turn_5 ?_
  refine al_15 (pc := 6) C ⟨by (first | assumption | omega), by (first | assumption | omega)⟩ dX7_turn_6 (g 15 0 0 3) (rfl) ?_
  refine v_iconst (pc := 7) C dX7_turn_7 ?_
  refine v_iadd (pc := 8) C dX7_turn_8 ?_
  refine as_15 (pc := 9) C ⟨by (first | assumption | omega), by (first | assumption | omega)⟩ dX7_turn_9 ?_
  refine v_aload_n (pc := 10) C 0 rfl rfl dX7_turn_10 ?_
  refine v_callvV (pc := 11) C cw_RX7_71 rcv_14 (ct_X7_takeBall l L (up g 15 0 0 3 ((g 15 0 0 3) + 1)) (by rw [up_i (by decide)]; exact mB2)) ⟨Nat.le_of_ble_eq_true rfl, Nat.le_of_ble_eq_true rfl⟩ rfl (Nat.le_of_ble_eq_true rfl) ⟨Nat.le_of_ble_eq_true rfl, Nat.le_of_ble_eq_true rfl⟩ rfl dX7_turn_11 (fun u9 hP_1 => ?_)
  rw [hP_1]
  clear hP_1 u9
  refine v_st (g2 := mtA g) C (by unfold mtA; rw [up_i (show (4 : Int) ≠ 3 by decide), up_i (show (6 : Int) ≠ 3 by decide)]) ?_
  refine v_aload_n (pc := 14) C 0 rfl rfl dX7_turn_14 ?_
  refine v_aload_n (pc := 15) C 0 rfl rfl dX7_turn_15 ?_
  refine gt_14_1 (pc := 16) C u_4_4 dX7_turn_16 ?_
  refine v_iconst (pc := 19) C dX7_turn_19 ?_
  refine al_15 (pc := 20) C ⟨by (first | assumption | omega), by (first | assumption | omega)⟩ dX7_turn_20 (g 15 0 0 5) (bx 5 (by decide)) ?_
  refine v_callvV (pc := 21) C cw_RX7_74 rcv_14 (ct_X7_moveBall l L (mtA g) (g 15 0 0 5) (by first | assumption | omega) (by rw [bx 0 (by decide)]; exact mS0) (by rw [bx 0 (by decide)]; unfold mtA; rw [up_i (by decide), up_s]; exact mB0) (by unfold mtA; rw [up_s]; exact mB2)) ⟨Nat.le_of_ble_eq_true rfl, Nat.le_of_ble_eq_true rfl⟩ rfl (Nat.le_of_ble_eq_true rfl) ⟨Nat.le_of_ble_eq_true rfl, Nat.le_of_ble_eq_true rfl⟩ rfl dX7_turn_21 (fun u9 hP_2 => ?_)
  rw [hP_2]
  clear hP_2 u9
  refine v_st (g2 := mtB g) C (rfl) ?_
  refine v_aload_n (pc := 24) C 0 rfl rfl dX7_turn_24 ?_
  refine gt_14_1 (pc := 25) C u_4_4 dX7_turn_25 ?_
  refine v_iconst (pc := 28) C dX7_turn_28 ?_
  refine v_aload_n (pc := 29) C 0 rfl rfl dX7_turn_29 ?_
  refine gt_14_12 (pc := 30) C u_15_17 dX7_turn_30 ((mtB g) 14 0 0 12) (rfl) ?_
  refine as_15 (pc := 33) C ⟨by (first | assumption | omega), by (first | assumption | omega)⟩ dX7_turn_33 ?_
  refine v_aload_n (pc := 34) C 0 rfl rfl dX7_turn_34 ?_
  refine gt_14_1 (pc := 35) C u_4_4 dX7_turn_35 ?_
  refine v_bipush (pc := 38) C rfl dX7_turn_38 ?_
  refine v_aload_n (pc := 40) C 0 rfl rfl dX7_turn_40 ?_
  refine gt_14_13 (pc := 41) C u_15_18 dX7_turn_41 ((mtB g) 14 0 0 13) (by simp [up]) ?_
  refine v_if_eq (pc := 44) C 51 ⟨by (first | assumption | omega), by (first | assumption | omega)⟩ (by decide) dX7_turn_44 (fun h44 => ?_) (fun h44 => ?_)
  · skip
    refine v_iconst (pc := 51) C dX7_turn_51 ?_
    refine v_topi (b := mtB g 14 0 0 13) C (by omega) ?_
    refine as_15 (pc := 52) C ⟨by (first | assumption | omega), by (first | assumption | omega)⟩ dX7_turn_52 ?_
    refine v_st (g2 := mtC g) C (rfl) ?_
    refine v_iconst (pc := 53) C dX7_turn_53 ?_
    refine v_istore_n (pc := 54) C [(1, .int (iI 0)), (0, .ref (adr L 14 0 0))] rfl (by decide) rfl dX7_turn_54 ?_
    refine v_iconst (pc := 55) C dX7_turn_55 ?_
    refine v_istore_n (pc := 56) C [(2, .int (iI 0)), (1, .int (iI 0)), (0, .ref (adr L 14 0 0))] rfl (by decide) rfl dX7_turn_56 ?_
    have lb57 : ∀ (n9 : Nat) (u : St) (q : Int) (p : Int), (0 ≤ p ∧ p ≤ g 15 0 0 0 + 1) → (u = (tpP (mtC g) p.toNat).1) → (q = (tpP (mtC g) p.toNat).2) → (g 15 0 0 0 + 1 - p).toNat < n9 → V pp l ee { frames := 2, cells := 0, slots := 0, locals := 47 } ss mm ([.ref (adr L 14 0 0)]).toArray bel mth cx 6 L (HH L u) 0 0 (MQ bel (va_Qi (fun (r9 : Int32) (u9 : St) => r9 = iI ((tuM g).2) ∧ u9 = (tuM g).1) (fun u t => HS L u t) (Af L)) ([.ref (adr L 14 0 0)]).toArray ss 0 0 (Af L)) 57 [(0, .ref (adr L 14 0 0)), (1, .int (iI q)), (2, .int (iI p))] [] := by
      intro n9
      induction n9 with
      | zero => intro u q p hp hu hq hm9; exact absurd hm9 (Nat.not_lt_zero _)
      | succ n9 ih9 =>
        intro u q p hp hu hq hm9
        have hwu : fz (mtC g) u := by (rw [hu]; exact (tpP_in hmc _).1)
        have hqq := (tpP_in hmc p.toNat).2
        have u0 := hwu.2.1 0 (by decide)
        have u3 := hwu.2.1 3 (by decide)
        have u9 := hwu.2.1 9 (by decide)
        have ih57 := ih9
        refine v_iload_n (pc := 57) C 2 rfl rfl dX7_turn_57 ?_
        refine v_aload_n (pc := 58) C 0 rfl rfl dX7_turn_58 ?_
        refine gt_14_1 (pc := 59) C u_4_4 dX7_turn_59 ?_
        refine v_iconst (pc := 62) C dX7_turn_62 ?_
        refine al_15 (pc := 63) C ⟨by (first | assumption | omega), by (first | assumption | omega)⟩ dX7_turn_63 (u 15 0 0 0) (rfl) ?_
        refine v_icmp_gt (pc := 64) C 172 ⟨by (first | assumption | omega), by (first | assumption | omega)⟩ ⟨by (first | assumption | omega), by (first | assumption | omega)⟩ (by decide) dX7_turn_64 (fun h64 => ?_) (fun h64 => ?_)
        · skip
          refine v_aload_n (pc := 172) C 0 rfl rfl dX7_turn_172 ?_
          refine v_callvV (pc := 173) C cw_RX7_84 rcv_14 (ct_X7_dropDue l L u (by exact hwu.1)) ⟨Nat.le_of_ble_eq_true rfl, Nat.le_of_ble_eq_true rfl⟩ rfl (Nat.le_of_ble_eq_true rfl) ⟨Nat.le_of_ble_eq_true rfl, Nat.le_of_ble_eq_true rfl⟩ rfl dX7_turn_173 (fun u9 hP_3 => ?_)
          rw [hP_3]
          clear hP_3 u9
          refine v_iload_n (pc := 176) C 1 rfl rfl dX7_turn_176 ?_
          exact v_iret (pc := 177) C hr hlk (⟨congrArg iI (by unfold tuM; rw [show p = g 15 0 0 0 + 1 by omega] at hq; exact hq), by unfold tuM; rw [show p = g 15 0 0 0 + 1 by omega] at hu; rw [hu]⟩) dX7_turn_177
        · skip
          have hsg : 0 ≤ sg u p ∧ sg u p ≤ 1 := by (unfold sg; split <;> decide)
          have hcu := mCo_in u p (u 15 0 0 3)
          refine v_aload_n (pc := 67) C 0 rfl rfl dX7_turn_67 ?_
          refine v_iload_n (pc := 68) C 2 rfl rfl dX7_turn_68 ?_
          refine v_aload_n (pc := 69) C 0 rfl rfl dX7_turn_69 ?_
          refine gt_14_1 (pc := 70) C u_4_4 dX7_turn_70 ?_
          refine v_iconst (pc := 73) C dX7_turn_73 ?_
          refine al_15 (pc := 74) C ⟨by (first | assumption | omega), by (first | assumption | omega)⟩ dX7_turn_74 (u 15 0 0 3) (rfl) ?_
          refine v_calliV (pc := 75) C cw_RX7_77 rcv_14 (ct_X7_comingTo l L u 0 p (u 15 0 0 3) (by exact hwu.1) (by first | assumption | omega) (by first | assumption | omega) (by first | assumption | omega)) ⟨Nat.le_of_ble_eq_true rfl, Nat.le_of_ble_eq_true rfl⟩ rfl (Nat.le_of_ble_eq_true rfl) ⟨Nat.le_of_ble_eq_true rfl, Nat.le_of_ble_eq_true rfl⟩ rfl dX7_turn_75 (fun r9 u9 hP_4 => ?_)
          obtain ⟨hP_4, hP_4b⟩ := hP_4
          rw [hP_4, hP_4b]
          clear hP_4 hP_4b r9 u9
          refine v_iconst (pc := 78) C dX7_turn_78 ?_
          refine v_icmp_ne (pc := 79) C 86 ⟨by (first | assumption | omega), by (first | assumption | omega)⟩ ⟨by (first | assumption | omega), by (first | assumption | omega)⟩ (by decide) dX7_turn_79 (fun h79 => ?_) (fun h79 => ?_)
          · skip
            refine v_iconst (pc := 86) C dX7_turn_86 ?_
            refine v_topi (b := sg u p) C (by unfold sg; first | rw [if_pos (by omega)] | rw [if_neg (by omega)]) ?_
            refine v_istore_n (pc := 87) C [(3, .int (iI (sg u p))), (0, .ref (adr L 14 0 0)), (1, .int (iI q)), (2, .int (iI p))] rfl (by decide) rfl dX7_turn_87 ?_
            refine v_iconst (pc := 88) C dX7_turn_88 ?_
            refine v_istore (pc := 89) C [(4, .int (iI 0)), (3, .int (iI (sg u p))), (0, .ref (adr L 14 0 0)), (1, .int (iI q)), (2, .int (iI p))] (by decide) rfl dX7_turn_89 ?_
            have lb91 : ∀ (n9 : Nat) (v : St) (b : Int) (e : Int), (0 ≤ e ∧ e ≤ mtC g 15 0 0 9) → (v = (tpE u p (sg u p) e.toNat).1) → (b = q + (tpE u p (sg u p) e.toNat).2) → (mtC g 15 0 0 9 - e).toNat < n9 → V pp l ee { frames := 2, cells := 0, slots := 0, locals := 47 } ss mm ([.ref (adr L 14 0 0)]).toArray bel mth cx 6 L (HH L v) 0 0 (MQ bel (va_Qi (fun (r9 : Int32) (u9 : St) => r9 = iI ((tuM g).2) ∧ u9 = (tuM g).1) (fun u t => HS L u t) (Af L)) ([.ref (adr L 14 0 0)]).toArray ss 0 0 (Af L)) 91 [(0, .ref (adr L 14 0 0)), (1, .int (iI b)), (2, .int (iI p)), (3, .int (iI (sg u p))), (4, .int (iI e))] [] := by
              intro n9
              induction n9 with
              | zero => intro v b e he hv hb hm9; exact absurd hm9 (Nat.not_lt_zero _)
              | succ n9 ih9 =>
                intro v b e he hv hb hm9
                have hww := tpE_in (p := p) (a := sg u p) hwu.1 e.toNat (by omega)
                rw [← hv] at hww
                have v0 := hww.1.2.1 0 (by decide)
                have v9 := hww.1.2.1 9 (by decide)
                have v3 := hww.1.2.1 3 (by decide)
                have ve1 := hww.1.2.1 (34 + 5 * e + 1) (by omega)
                have ve3 := hww.1.2.1 (34 + 5 * e + 3) (by omega)
                have es : (e + 1).toNat = e.toNat + 1 := by omega
                have ei : ((e.toNat : Nat) : Int) = e := by omega
                have ih91 := ih9
                refine v_iload (pc := 91) C 4 rfl dX7_turn_91 ?_
                refine v_aload_n (pc := 93) C 0 rfl rfl dX7_turn_93 ?_
                refine gt_14_1 (pc := 94) C u_4_4 dX7_turn_94 ?_
                refine v_bipush (pc := 97) C rfl dX7_turn_97 ?_
                refine al_15 (pc := 99) C ⟨by (first | assumption | omega), by (first | assumption | omega)⟩ dX7_turn_99 (v 15 0 0 9) (rfl) ?_
                refine v_icmp_ge (pc := 100) C 166 ⟨by (first | assumption | omega), by (first | assumption | omega)⟩ ⟨by (first | assumption | omega), by (first | assumption | omega)⟩ (by decide) dX7_turn_100 (fun h100 => ?_) (fun h100 => ?_)
                · skip
                  refine v_iinc (pc := 166) C 2 [(2, .int (iI (p + 1))), (0, .ref (adr L 14 0 0)), (1, .int (iI b)), (3, .int (iI (sg u p))), (4, .int (iI e))] rfl (by decide) rfl dX7_turn_166 ?_
                  refine v_goto (pc := 169) C 57 (by decide) dX7_turn_169 ?_
                  refine v_lsub [1, 2, 0] rfl ?_
                  exact ih57 v b (p + 1) (by omega) (by rw [show (p + 1).toNat = p.toNat + 1 by omega, tpP, ← hu, show ((p.toNat : Nat) : Int) = p by omega]; rw [hv, show e = mtC g 15 0 0 9 by omega]) (by rw [show (p + 1).toNat = p.toNat + 1 by omega, tpP, ← hu, ← hq, show ((p.toNat : Nat) : Int) = p by omega]; rw [hb, show e = mtC g 15 0 0 9 by omega]) (by omega)
                · skip
                  have hee := hww.1.1.2.2.2.2.2.2.2.2.2 e (by omega) (by omega)
                  unfold okM at hee
                  refine v_aload_n (pc := 103) C 0 rfl rfl dX7_turn_103 ?_
                  refine v_iload (pc := 104) C 4 rfl dX7_turn_104 ?_
                  refine v_iconst (pc := 106) C dX7_turn_106 ?_
                  refine v_calliV (pc := 107) C cw_RX7_54 rcv_14 (ct_X7_ofEcho l L v e 1 (by first | assumption | omega) (by first | assumption | omega)) ⟨Nat.le_of_ble_eq_true rfl, Nat.le_of_ble_eq_true rfl⟩ rfl (Nat.le_of_ble_eq_true rfl) ⟨Nat.le_of_ble_eq_true rfl, Nat.le_of_ble_eq_true rfl⟩ rfl dX7_turn_107 (fun r9 u9 hP_5 => ?_)
                  obtain ⟨hP_5, hP_5b⟩ := hP_5
                  rw [hP_5, hP_5b]
                  clear hP_5 hP_5b r9 u9
                  refine v_iload_n (pc := 110) C 2 rfl rfl dX7_turn_110 ?_
                  refine v_icmp_ne (pc := 111) C 134 ⟨by (first | assumption | omega), by (first | assumption | omega)⟩ ⟨by (first | assumption | omega), by (first | assumption | omega)⟩ (by decide) dX7_turn_111 (fun h111 => ?_) (fun h111 => ?_)
                  · skip
                    refine v_iconst (pc := 134) C dX7_turn_134 ?_
                    refine v_istore (pc := 135) C [(5, .int (iI 0)), (0, .ref (adr L 14 0 0)), (1, .int (iI b)), (2, .int (iI p)), (3, .int (iI (sg u p))), (4, .int (iI e))] (by decide) rfl dX7_turn_135 ?_
                    refine v_iload_n (pc := 137) C 2 rfl rfl dX7_turn_137 ?_
                    refine v_iload (pc := 138) C 0 rfl dX7_turn_138 ?_
                    refine v_if_eq (pc := 140) C 157 ⟨by (first | assumption | omega), by (first | assumption | omega)⟩ (by decide) dX7_turn_140 (fun h140 => ?_) (fun h140 => ?_)
                    · skip
                      refine v_iconst (pc := 157) C dX7_turn_157 ?_
                      refine v_iadd (pc := 158) C dX7_turn_158 ?_
                      refine v_istore_n (pc := 159) C [(1, .int (iI (b + 0))), (5, .int (iI 0)), (0, .ref (adr L 14 0 0)), (2, .int (iI p)), (3, .int (iI (sg u p))), (4, .int (iI e))] rfl (by decide) rfl dX7_turn_159 ?_
                      refine v_iinc (pc := 160) C 5 [(4, .int (iI (e + 1))), (1, .int (iI (b + 0))), (5, .int (iI 0)), (0, .ref (adr L 14 0 0)), (2, .int (iI p)), (3, .int (iI (sg u p)))] rfl (by decide) rfl dX7_turn_160 ?_
                      refine v_goto (pc := 163) C 91 (by decide) dX7_turn_163 ?_
                      refine v_lsub [3, 1, 4, 5, 0] rfl ?_
                      exact ih91 v (b + 0) (e + 1) (by omega) (by rw [es, tpE, ei]; first | (rw [if_pos (by omega), ← hv]) | (rw [if_neg (by omega), ← hv])) (by rw [es, tpE, ei]; first | (rw [if_pos (by omega)]; show _ = q + ((tpE u p (sg u p) e.toNat).2 + cbR (tpE u p (sg u p) e.toNat).1 e (sg u p)); rw [← hv]; omega) | (rw [if_neg (by omega)]; omega)) (by omega)
                    · skip
                      exfalso; omega
                  · skip
                    refine v_aload_n (pc := 114) C 0 rfl rfl dX7_turn_114 ?_
                    refine v_iload (pc := 115) C 4 rfl dX7_turn_115 ?_
                    refine v_iconst (pc := 117) C dX7_turn_117 ?_
                    refine v_calliV (pc := 118) C cw_RX7_54 rcv_14 (ct_X7_ofEcho l L v e 3 (by first | assumption | omega) (by first | assumption | omega)) ⟨Nat.le_of_ble_eq_true rfl, Nat.le_of_ble_eq_true rfl⟩ rfl (Nat.le_of_ble_eq_true rfl) ⟨Nat.le_of_ble_eq_true rfl, Nat.le_of_ble_eq_true rfl⟩ rfl dX7_turn_118 (fun r9 u9 hP_6 => ?_)
                    obtain ⟨hP_6, hP_6b⟩ := hP_6
                    rw [hP_6, hP_6b]
                    clear hP_6 hP_6b r9 u9
                    refine v_aload_n (pc := 121) C 0 rfl rfl dX7_turn_121 ?_
                    refine gt_14_1 (pc := 122) C u_4_4 dX7_turn_122 ?_
                    refine v_iconst (pc := 125) C dX7_turn_125 ?_
                    refine al_15 (pc := 126) C ⟨by (first | assumption | omega), by (first | assumption | omega)⟩ dX7_turn_126 (v 15 0 0 3) (rfl) ?_
                    refine v_icmp_ne (pc := 127) C 134 ⟨by (first | assumption | omega), by (first | assumption | omega)⟩ ⟨by (first | assumption | omega), by (first | assumption | omega)⟩ (by decide) dX7_turn_127 (fun h127 => ?_) (fun h127 => ?_)
                    · skip
                      refine v_iconst (pc := 134) C dX7_turn_134 ?_
                      refine v_istore (pc := 135) C [(5, .int (iI 0)), (0, .ref (adr L 14 0 0)), (1, .int (iI b)), (2, .int (iI p)), (3, .int (iI (sg u p))), (4, .int (iI e))] (by decide) rfl dX7_turn_135 ?_
                      refine v_iload_n (pc := 137) C 2 rfl rfl dX7_turn_137 ?_
                      refine v_iload (pc := 138) C 0 rfl dX7_turn_138 ?_
                      refine v_if_eq (pc := 140) C 157 ⟨by (first | assumption | omega), by (first | assumption | omega)⟩ (by decide) dX7_turn_140 (fun h140 => ?_) (fun h140 => ?_)
                      · skip
                        refine v_iconst (pc := 157) C dX7_turn_157 ?_
                        refine v_iadd (pc := 158) C dX7_turn_158 ?_
                        refine v_istore_n (pc := 159) C [(1, .int (iI (b + 0))), (5, .int (iI 0)), (0, .ref (adr L 14 0 0)), (2, .int (iI p)), (3, .int (iI (sg u p))), (4, .int (iI e))] rfl (by decide) rfl dX7_turn_159 ?_
                        refine v_iinc (pc := 160) C 5 [(4, .int (iI (e + 1))), (1, .int (iI (b + 0))), (5, .int (iI 0)), (0, .ref (adr L 14 0 0)), (2, .int (iI p)), (3, .int (iI (sg u p)))] rfl (by decide) rfl dX7_turn_160 ?_
                        refine v_goto (pc := 163) C 91 (by decide) dX7_turn_163 ?_
                        refine v_lsub [3, 1, 4, 5, 0] rfl ?_
                        exact ih91 v (b + 0) (e + 1) (by omega) (by rw [es, tpE, ei]; first | (rw [if_pos (by omega), ← hv]) | (rw [if_neg (by omega), ← hv])) (by rw [es, tpE, ei]; first | (rw [if_pos (by omega)]; show _ = q + ((tpE u p (sg u p) e.toNat).2 + cbR (tpE u p (sg u p) e.toNat).1 e (sg u p)); rw [← hv]; omega) | (rw [if_neg (by omega)]; omega)) (by omega)
                      · skip
                        exfalso; omega
                    · skip
                      refine v_iconst (pc := 130) C dX7_turn_130 ?_
                      refine v_goto (pc := 131) C 135 (by decide) dX7_turn_131 ?_
                      refine v_istore (pc := 135) C [(5, .int (iI 1)), (0, .ref (adr L 14 0 0)), (1, .int (iI b)), (2, .int (iI p)), (3, .int (iI (sg u p))), (4, .int (iI e))] (by decide) rfl dX7_turn_135 ?_
                      refine v_iload_n (pc := 137) C 2 rfl rfl dX7_turn_137 ?_
                      refine v_iload (pc := 138) C 0 rfl dX7_turn_138 ?_
                      refine v_if_eq (pc := 140) C 157 ⟨by (first | assumption | omega), by (first | assumption | omega)⟩ (by decide) dX7_turn_140 (fun h140 => ?_) (fun h140 => ?_)
                      · skip
                        exfalso; omega
                      · skip
                        refine v_aload_n (pc := 143) C 1 rfl rfl dX7_turn_143 ?_
                        refine v_iload (pc := 144) C 5 rfl dX7_turn_144 ?_
                        refine v_iload_n (pc := 146) C 4 rfl rfl dX7_turn_146 ?_
                        refine v_calliV (pc := 147) C cw_RX7_80 rcv_14 (ct_X7_comesBack l L v e (sg u p) (by exact hww.1.1) (by first | assumption | omega) (by first | assumption | omega)) ⟨Nat.le_of_ble_eq_true rfl, Nat.le_of_ble_eq_true rfl⟩ rfl (Nat.le_of_ble_eq_true rfl) ⟨Nat.le_of_ble_eq_true rfl, Nat.le_of_ble_eq_true rfl⟩ rfl dX7_turn_147 (fun r9 u9 hP_7 => ?_)
                        obtain ⟨hP_7, hP_7b⟩ := hP_7
                        rw [hP_7, hP_7b]
                        clear hP_7 hP_7b r9 u9
                        refine v_if_eq (pc := 150) C 157 ⟨by have := cbR_01 v e (sg u p); omega, by have := cbR_01 v e (sg u p); omega⟩ (by decide) dX7_turn_150 (fun h150 => ?_) (fun h150 => ?_)
                        · skip
                          have hc01 := cbR_01 v e (sg u p)
                          refine v_iconst (pc := 157) C dX7_turn_157 ?_
                          refine v_iadd (pc := 158) C dX7_turn_158 ?_
                          refine v_istore_n (pc := 159) C [(1, .int (iI (b + 0))), (5, .int (iI 1)), (0, .ref (adr L 14 0 0)), (2, .int (iI p)), (3, .int (iI (sg u p))), (4, .int (iI e))] rfl (by decide) rfl dX7_turn_159 ?_
                          refine v_iinc (pc := 160) C 5 [(4, .int (iI (e + 1))), (1, .int (iI (b + 0))), (5, .int (iI 1)), (0, .ref (adr L 14 0 0)), (2, .int (iI p)), (3, .int (iI (sg u p)))] rfl (by decide) rfl dX7_turn_160 ?_
                          refine v_goto (pc := 163) C 91 (by decide) dX7_turn_163 ?_
                          refine v_lsub [3, 1, 4, 5, 0] rfl ?_
                          exact ih91 (cbG v e (sg u p)) (b + 0) (e + 1) (by omega) (by rw [es, tpE, ei]; first | (rw [if_pos (by omega), ← hv]) | (rw [if_neg (by omega), ← hv])) (by rw [es, tpE, ei]; first | (rw [if_pos (by omega)]; show _ = q + ((tpE u p (sg u p) e.toNat).2 + cbR (tpE u p (sg u p) e.toNat).1 e (sg u p)); rw [← hv]; omega) | (rw [if_neg (by omega)]; omega)) (by omega)
                        · skip
                          have hc01 := cbR_01 v e (sg u p)
                          refine v_iconst (pc := 153) C dX7_turn_153 ?_
                          refine v_goto (pc := 154) C 158 (by decide) dX7_turn_154 ?_
                          refine v_iadd (pc := 158) C dX7_turn_158 ?_
                          refine v_istore_n (pc := 159) C [(1, .int (iI (b + 1))), (5, .int (iI 1)), (0, .ref (adr L 14 0 0)), (2, .int (iI p)), (3, .int (iI (sg u p))), (4, .int (iI e))] rfl (by decide) rfl dX7_turn_159 ?_
                          refine v_iinc (pc := 160) C 5 [(4, .int (iI (e + 1))), (1, .int (iI (b + 1))), (5, .int (iI 1)), (0, .ref (adr L 14 0 0)), (2, .int (iI p)), (3, .int (iI (sg u p)))] rfl (by decide) rfl dX7_turn_160 ?_
                          refine v_goto (pc := 163) C 91 (by decide) dX7_turn_163 ?_
                          refine v_lsub [3, 1, 4, 5, 0] rfl ?_
                          exact ih91 (cbG v e (sg u p)) (b + 1) (e + 1) (by omega) (by rw [es, tpE, ei]; first | (rw [if_pos (by omega), ← hv]) | (rw [if_neg (by omega), ← hv])) (by rw [es, tpE, ei]; first | (rw [if_pos (by omega)]; show _ = q + ((tpE u p (sg u p) e.toNat).2 + cbR (tpE u p (sg u p) e.toNat).1 e (sg u p)); rw [← hv]; omega) | (rw [if_neg (by omega)]; omega)) (by omega)
            refine v_lsub [2, 3, 4, 1, 0] rfl ?_
            exact lb91 _ u q 0 (by omega) (by rfl) (by simp [tpE]) (Nat.lt_succ_self _)
          · skip
            refine v_iconst (pc := 82) C dX7_turn_82 ?_
            refine v_goto (pc := 83) C 87 (by decide) dX7_turn_83 ?_
            refine v_topi (b := sg u p) C (by unfold sg; first | rw [if_pos (by omega)] | rw [if_neg (by omega)]) ?_
            refine v_istore_n (pc := 87) C [(3, .int (iI (sg u p))), (0, .ref (adr L 14 0 0)), (1, .int (iI q)), (2, .int (iI p))] rfl (by decide) rfl dX7_turn_87 ?_
            refine v_iconst (pc := 88) C dX7_turn_88 ?_
            refine v_istore (pc := 89) C [(4, .int (iI 0)), (3, .int (iI (sg u p))), (0, .ref (adr L 14 0 0)), (1, .int (iI q)), (2, .int (iI p))] (by decide) rfl dX7_turn_89 ?_
            have lb91 : ∀ (n9 : Nat) (v : St) (b : Int) (e : Int), (0 ≤ e ∧ e ≤ mtC g 15 0 0 9) → (v = (tpE u p (sg u p) e.toNat).1) → (b = q + (tpE u p (sg u p) e.toNat).2) → (mtC g 15 0 0 9 - e).toNat < n9 → V pp l ee { frames := 2, cells := 0, slots := 0, locals := 47 } ss mm ([.ref (adr L 14 0 0)]).toArray bel mth cx 6 L (HH L v) 0 0 (MQ bel (va_Qi (fun (r9 : Int32) (u9 : St) => r9 = iI ((tuM g).2) ∧ u9 = (tuM g).1) (fun u t => HS L u t) (Af L)) ([.ref (adr L 14 0 0)]).toArray ss 0 0 (Af L)) 91 [(0, .ref (adr L 14 0 0)), (1, .int (iI b)), (2, .int (iI p)), (3, .int (iI (sg u p))), (4, .int (iI e))] [] := by
              intro n9
              induction n9 with
              | zero => intro v b e he hv hb hm9; exact absurd hm9 (Nat.not_lt_zero _)
              | succ n9 ih9 =>
                intro v b e he hv hb hm9
                have hww := tpE_in (p := p) (a := sg u p) hwu.1 e.toNat (by omega)
                rw [← hv] at hww
                have v0 := hww.1.2.1 0 (by decide)
                have v9 := hww.1.2.1 9 (by decide)
                have v3 := hww.1.2.1 3 (by decide)
                have ve1 := hww.1.2.1 (34 + 5 * e + 1) (by omega)
                have ve3 := hww.1.2.1 (34 + 5 * e + 3) (by omega)
                have es : (e + 1).toNat = e.toNat + 1 := by omega
                have ei : ((e.toNat : Nat) : Int) = e := by omega
                have ih91 := ih9
                refine v_iload (pc := 91) C 4 rfl dX7_turn_91 ?_
                refine v_aload_n (pc := 93) C 0 rfl rfl dX7_turn_93 ?_
                refine gt_14_1 (pc := 94) C u_4_4 dX7_turn_94 ?_
                refine v_bipush (pc := 97) C rfl dX7_turn_97 ?_
                refine al_15 (pc := 99) C ⟨by (first | assumption | omega), by (first | assumption | omega)⟩ dX7_turn_99 (v 15 0 0 9) (rfl) ?_
                refine v_icmp_ge (pc := 100) C 166 ⟨by (first | assumption | omega), by (first | assumption | omega)⟩ ⟨by (first | assumption | omega), by (first | assumption | omega)⟩ (by decide) dX7_turn_100 (fun h100 => ?_) (fun h100 => ?_)
                · skip
                  refine v_iinc (pc := 166) C 2 [(2, .int (iI (p + 1))), (0, .ref (adr L 14 0 0)), (1, .int (iI b)), (3, .int (iI (sg u p))), (4, .int (iI e))] rfl (by decide) rfl dX7_turn_166 ?_
                  refine v_goto (pc := 169) C 57 (by decide) dX7_turn_169 ?_
                  refine v_lsub [1, 2, 0] rfl ?_
                  exact ih57 v b (p + 1) (by omega) (by rw [show (p + 1).toNat = p.toNat + 1 by omega, tpP, ← hu, show ((p.toNat : Nat) : Int) = p by omega]; rw [hv, show e = mtC g 15 0 0 9 by omega]) (by rw [show (p + 1).toNat = p.toNat + 1 by omega, tpP, ← hu, ← hq, show ((p.toNat : Nat) : Int) = p by omega]; rw [hb, show e = mtC g 15 0 0 9 by omega]) (by omega)
                · skip
                  have hee := hww.1.1.2.2.2.2.2.2.2.2.2 e (by omega) (by omega)
                  unfold okM at hee
                  refine v_aload_n (pc := 103) C 0 rfl rfl dX7_turn_103 ?_
                  refine v_iload (pc := 104) C 4 rfl dX7_turn_104 ?_
                  refine v_iconst (pc := 106) C dX7_turn_106 ?_
                  refine v_calliV (pc := 107) C cw_RX7_54 rcv_14 (ct_X7_ofEcho l L v e 1 (by first | assumption | omega) (by first | assumption | omega)) ⟨Nat.le_of_ble_eq_true rfl, Nat.le_of_ble_eq_true rfl⟩ rfl (Nat.le_of_ble_eq_true rfl) ⟨Nat.le_of_ble_eq_true rfl, Nat.le_of_ble_eq_true rfl⟩ rfl dX7_turn_107 (fun r9 u9 hP_8 => ?_)
                  obtain ⟨hP_8, hP_8b⟩ := hP_8
                  rw [hP_8, hP_8b]
                  clear hP_8 hP_8b r9 u9
                  refine v_iload_n (pc := 110) C 2 rfl rfl dX7_turn_110 ?_
                  refine v_icmp_ne (pc := 111) C 134 ⟨by (first | assumption | omega), by (first | assumption | omega)⟩ ⟨by (first | assumption | omega), by (first | assumption | omega)⟩ (by decide) dX7_turn_111 (fun h111 => ?_) (fun h111 => ?_)
                  · skip
                    refine v_iconst (pc := 134) C dX7_turn_134 ?_
                    refine v_istore (pc := 135) C [(5, .int (iI 0)), (0, .ref (adr L 14 0 0)), (1, .int (iI b)), (2, .int (iI p)), (3, .int (iI (sg u p))), (4, .int (iI e))] (by decide) rfl dX7_turn_135 ?_
                    refine v_iload_n (pc := 137) C 2 rfl rfl dX7_turn_137 ?_
                    refine v_iload (pc := 138) C 0 rfl dX7_turn_138 ?_
                    refine v_if_eq (pc := 140) C 157 ⟨by (first | assumption | omega), by (first | assumption | omega)⟩ (by decide) dX7_turn_140 (fun h140 => ?_) (fun h140 => ?_)
                    · skip
                      refine v_iconst (pc := 157) C dX7_turn_157 ?_
                      refine v_iadd (pc := 158) C dX7_turn_158 ?_
                      refine v_istore_n (pc := 159) C [(1, .int (iI (b + 0))), (5, .int (iI 0)), (0, .ref (adr L 14 0 0)), (2, .int (iI p)), (3, .int (iI (sg u p))), (4, .int (iI e))] rfl (by decide) rfl dX7_turn_159 ?_
                      refine v_iinc (pc := 160) C 5 [(4, .int (iI (e + 1))), (1, .int (iI (b + 0))), (5, .int (iI 0)), (0, .ref (adr L 14 0 0)), (2, .int (iI p)), (3, .int (iI (sg u p)))] rfl (by decide) rfl dX7_turn_160 ?_
                      refine v_goto (pc := 163) C 91 (by decide) dX7_turn_163 ?_
                      refine v_lsub [3, 1, 4, 5, 0] rfl ?_
                      exact ih91 v (b + 0) (e + 1) (by omega) (by rw [es, tpE, ei]; first | (rw [if_pos (by omega), ← hv]) | (rw [if_neg (by omega), ← hv])) (by rw [es, tpE, ei]; first | (rw [if_pos (by omega)]; show _ = q + ((tpE u p (sg u p) e.toNat).2 + cbR (tpE u p (sg u p) e.toNat).1 e (sg u p)); rw [← hv]; omega) | (rw [if_neg (by omega)]; omega)) (by omega)
                    · skip
                      exfalso; omega
                  · skip
                    refine v_aload_n (pc := 114) C 0 rfl rfl dX7_turn_114 ?_
                    refine v_iload (pc := 115) C 4 rfl dX7_turn_115 ?_
                    refine v_iconst (pc := 117) C dX7_turn_117 ?_
                    refine v_calliV (pc := 118) C cw_RX7_54 rcv_14 (ct_X7_ofEcho l L v e 3 (by first | assumption | omega) (by first | assumption | omega)) ⟨Nat.le_of_ble_eq_true rfl, Nat.le_of_ble_eq_true rfl⟩ rfl (Nat.le_of_ble_eq_true rfl) ⟨Nat.le_of_ble_eq_true rfl, Nat.le_of_ble_eq_true rfl⟩ rfl dX7_turn_118 (fun r9 u9 hP_9 => ?_)
                    obtain ⟨hP_9, hP_9b⟩ := hP_9
                    rw [hP_9, hP_9b]
                    clear hP_9 hP_9b r9 u9
                    refine v_aload_n (pc := 121) C 0 rfl rfl dX7_turn_121 ?_
                    refine gt_14_1 (pc := 122) C u_4_4 dX7_turn_122 ?_
                    refine v_iconst (pc := 125) C dX7_turn_125 ?_
                    refine al_15 (pc := 126) C ⟨by (first | assumption | omega), by (first | assumption | omega)⟩ dX7_turn_126 (v 15 0 0 3) (rfl) ?_
                    refine v_icmp_ne (pc := 127) C 134 ⟨by (first | assumption | omega), by (first | assumption | omega)⟩ ⟨by (first | assumption | omega), by (first | assumption | omega)⟩ (by decide) dX7_turn_127 (fun h127 => ?_) (fun h127 => ?_)
                    · skip
                      refine v_iconst (pc := 134) C dX7_turn_134 ?_
                      refine v_istore (pc := 135) C [(5, .int (iI 0)), (0, .ref (adr L 14 0 0)), (1, .int (iI b)), (2, .int (iI p)), (3, .int (iI (sg u p))), (4, .int (iI e))] (by decide) rfl dX7_turn_135 ?_
                      refine v_iload_n (pc := 137) C 2 rfl rfl dX7_turn_137 ?_
                      refine v_iload (pc := 138) C 0 rfl dX7_turn_138 ?_
                      refine v_if_eq (pc := 140) C 157 ⟨by (first | assumption | omega), by (first | assumption | omega)⟩ (by decide) dX7_turn_140 (fun h140 => ?_) (fun h140 => ?_)
                      · skip
                        refine v_iconst (pc := 157) C dX7_turn_157 ?_
                        refine v_iadd (pc := 158) C dX7_turn_158 ?_
                        refine v_istore_n (pc := 159) C [(1, .int (iI (b + 0))), (5, .int (iI 0)), (0, .ref (adr L 14 0 0)), (2, .int (iI p)), (3, .int (iI (sg u p))), (4, .int (iI e))] rfl (by decide) rfl dX7_turn_159 ?_
                        refine v_iinc (pc := 160) C 5 [(4, .int (iI (e + 1))), (1, .int (iI (b + 0))), (5, .int (iI 0)), (0, .ref (adr L 14 0 0)), (2, .int (iI p)), (3, .int (iI (sg u p)))] rfl (by decide) rfl dX7_turn_160 ?_
                        refine v_goto (pc := 163) C 91 (by decide) dX7_turn_163 ?_
                        refine v_lsub [3, 1, 4, 5, 0] rfl ?_
                        exact ih91 v (b + 0) (e + 1) (by omega) (by rw [es, tpE, ei]; first | (rw [if_pos (by omega), ← hv]) | (rw [if_neg (by omega), ← hv])) (by rw [es, tpE, ei]; first | (rw [if_pos (by omega)]; show _ = q + ((tpE u p (sg u p) e.toNat).2 + cbR (tpE u p (sg u p) e.toNat).1 e (sg u p)); rw [← hv]; omega) | (rw [if_neg (by omega)]; omega)) (by omega)
                      · skip
                        exfalso; omega
                    · skip
                      refine v_iconst (pc := 130) C dX7_turn_130 ?_
                      refine v_goto (pc := 131) C 135 (by decide) dX7_turn_131 ?_
                      refine v_istore (pc := 135) C [(5, .int (iI 1)), (0, .ref (adr L 14 0 0)), (1, .int (iI b)), (2, .int (iI p)), (3, .int (iI (sg u p))), (4, .int (iI e))] (by decide) rfl dX7_turn_135 ?_
                      refine v_iload_n (pc := 137) C 2 rfl rfl dX7_turn_137 ?_
                      refine v_iload (pc := 138) C 0 rfl dX7_turn_138 ?_
                      refine v_if_eq (pc := 140) C 157 ⟨by (first | assumption | omega), by (first | assumption | omega)⟩ (by decide) dX7_turn_140 (fun h140 => ?_) (fun h140 => ?_)
                      · skip
                        exfalso; omega
                      · skip
                        refine v_aload_n (pc := 143) C 1 rfl rfl dX7_turn_143 ?_
                        refine v_iload (pc := 144) C 5 rfl dX7_turn_144 ?_
                        refine v_iload_n (pc := 146) C 4 rfl rfl dX7_turn_146 ?_
                        refine v_calliV (pc := 147) C cw_RX7_80 rcv_14 (ct_X7_comesBack l L v e (sg u p) (by exact hww.1.1) (by first | assumption | omega) (by first | assumption | omega)) ⟨Nat.le_of_ble_eq_true rfl, Nat.le_of_ble_eq_true rfl⟩ rfl (Nat.le_of_ble_eq_true rfl) ⟨Nat.le_of_ble_eq_true rfl, Nat.le_of_ble_eq_true rfl⟩ rfl dX7_turn_147 (fun r9 u9 hP_10 => ?_)
                        obtain ⟨hP_10, hP_10b⟩ := hP_10
                        rw [hP_10, hP_10b]
                        clear hP_10 hP_10b r9 u9
                        refine v_if_eq (pc := 150) C 157 ⟨by have := cbR_01 v e (sg u p); omega, by have := cbR_01 v e (sg u p); omega⟩ (by decide) dX7_turn_150 (fun h150 => ?_) (fun h150 => ?_)
                        · skip
                          have hc01 := cbR_01 v e (sg u p)
                          refine v_iconst (pc := 157) C dX7_turn_157 ?_
                          refine v_iadd (pc := 158) C dX7_turn_158 ?_
                          refine v_istore_n (pc := 159) C [(1, .int (iI (b + 0))), (5, .int (iI 1)), (0, .ref (adr L 14 0 0)), (2, .int (iI p)), (3, .int (iI (sg u p))), (4, .int (iI e))] rfl (by decide) rfl dX7_turn_159 ?_
                          refine v_iinc (pc := 160) C 5 [(4, .int (iI (e + 1))), (1, .int (iI (b + 0))), (5, .int (iI 1)), (0, .ref (adr L 14 0 0)), (2, .int (iI p)), (3, .int (iI (sg u p)))] rfl (by decide) rfl dX7_turn_160 ?_
                          refine v_goto (pc := 163) C 91 (by decide) dX7_turn_163 ?_
                          refine v_lsub [3, 1, 4, 5, 0] rfl ?_
                          exact ih91 (cbG v e (sg u p)) (b + 0) (e + 1) (by omega) (by rw [es, tpE, ei]; first | (rw [if_pos (by omega), ← hv]) | (rw [if_neg (by omega), ← hv])) (by rw [es, tpE, ei]; first | (rw [if_pos (by omega)]; show _ = q + ((tpE u p (sg u p) e.toNat).2 + cbR (tpE u p (sg u p) e.toNat).1 e (sg u p)); rw [← hv]; omega) | (rw [if_neg (by omega)]; omega)) (by omega)
                        · skip
                          have hc01 := cbR_01 v e (sg u p)
                          refine v_iconst (pc := 153) C dX7_turn_153 ?_
                          refine v_goto (pc := 154) C 158 (by decide) dX7_turn_154 ?_
                          refine v_iadd (pc := 158) C dX7_turn_158 ?_
                          refine v_istore_n (pc := 159) C [(1, .int (iI (b + 1))), (5, .int (iI 1)), (0, .ref (adr L 14 0 0)), (2, .int (iI p)), (3, .int (iI (sg u p))), (4, .int (iI e))] rfl (by decide) rfl dX7_turn_159 ?_
                          refine v_iinc (pc := 160) C 5 [(4, .int (iI (e + 1))), (1, .int (iI (b + 1))), (5, .int (iI 1)), (0, .ref (adr L 14 0 0)), (2, .int (iI p)), (3, .int (iI (sg u p)))] rfl (by decide) rfl dX7_turn_160 ?_
                          refine v_goto (pc := 163) C 91 (by decide) dX7_turn_163 ?_
                          refine v_lsub [3, 1, 4, 5, 0] rfl ?_
                          exact ih91 (cbG v e (sg u p)) (b + 1) (e + 1) (by omega) (by rw [es, tpE, ei]; first | (rw [if_pos (by omega), ← hv]) | (rw [if_neg (by omega), ← hv])) (by rw [es, tpE, ei]; first | (rw [if_pos (by omega)]; show _ = q + ((tpE u p (sg u p) e.toNat).2 + cbR (tpE u p (sg u p) e.toNat).1 e (sg u p)); rw [← hv]; omega) | (rw [if_neg (by omega)]; omega)) (by omega)
            refine v_lsub [2, 3, 4, 1, 0] rfl ?_
            exact lb91 _ u q 0 (by omega) (by rfl) (by simp [tpE]) (Nat.lt_succ_self _)
    refine v_lsub [2, 1, 0] rfl ?_
    exact lb57 _ (mtC g) 0 0 (by omega) (by rfl) (by rfl) (Nat.lt_succ_self _)
  · skip
    refine v_iconst (pc := 47) C dX7_turn_47 ?_
    refine v_goto (pc := 48) C 52 (by decide) dX7_turn_48 ?_
    refine v_topi (b := mtB g 14 0 0 13) C (by omega) ?_
    refine as_15 (pc := 52) C ⟨by (first | assumption | omega), by (first | assumption | omega)⟩ dX7_turn_52 ?_
    refine v_st (g2 := mtC g) C (rfl) ?_
    refine v_iconst (pc := 53) C dX7_turn_53 ?_
    refine v_istore_n (pc := 54) C [(1, .int (iI 0)), (0, .ref (adr L 14 0 0))] rfl (by decide) rfl dX7_turn_54 ?_
    refine v_iconst (pc := 55) C dX7_turn_55 ?_
    refine v_istore_n (pc := 56) C [(2, .int (iI 0)), (1, .int (iI 0)), (0, .ref (adr L 14 0 0))] rfl (by decide) rfl dX7_turn_56 ?_
    have lb57 : ∀ (n9 : Nat) (u : St) (q : Int) (p : Int), (0 ≤ p ∧ p ≤ g 15 0 0 0 + 1) → (u = (tpP (mtC g) p.toNat).1) → (q = (tpP (mtC g) p.toNat).2) → (g 15 0 0 0 + 1 - p).toNat < n9 → V pp l ee { frames := 2, cells := 0, slots := 0, locals := 47 } ss mm ([.ref (adr L 14 0 0)]).toArray bel mth cx 6 L (HH L u) 0 0 (MQ bel (va_Qi (fun (r9 : Int32) (u9 : St) => r9 = iI ((tuM g).2) ∧ u9 = (tuM g).1) (fun u t => HS L u t) (Af L)) ([.ref (adr L 14 0 0)]).toArray ss 0 0 (Af L)) 57 [(0, .ref (adr L 14 0 0)), (1, .int (iI q)), (2, .int (iI p))] [] := by
      intro n9
      induction n9 with
      | zero => intro u q p hp hu hq hm9; exact absurd hm9 (Nat.not_lt_zero _)
      | succ n9 ih9 =>
        intro u q p hp hu hq hm9
        have hwu : fz (mtC g) u := by (rw [hu]; exact (tpP_in hmc _).1)
        have hqq := (tpP_in hmc p.toNat).2
        have u0 := hwu.2.1 0 (by decide)
        have u3 := hwu.2.1 3 (by decide)
        have u9 := hwu.2.1 9 (by decide)
        have ih57 := ih9
        refine v_iload_n (pc := 57) C 2 rfl rfl dX7_turn_57 ?_
        refine v_aload_n (pc := 58) C 0 rfl rfl dX7_turn_58 ?_
        refine gt_14_1 (pc := 59) C u_4_4 dX7_turn_59 ?_
        refine v_iconst (pc := 62) C dX7_turn_62 ?_
        refine al_15 (pc := 63) C ⟨by (first | assumption | omega), by (first | assumption | omega)⟩ dX7_turn_63 (u 15 0 0 0) (rfl) ?_
        refine v_icmp_gt (pc := 64) C 172 ⟨by (first | assumption | omega), by (first | assumption | omega)⟩ ⟨by (first | assumption | omega), by (first | assumption | omega)⟩ (by decide) dX7_turn_64 (fun h64 => ?_) (fun h64 => ?_)
        · skip
          refine v_aload_n (pc := 172) C 0 rfl rfl dX7_turn_172 ?_
          refine v_callvV (pc := 173) C cw_RX7_84 rcv_14 (ct_X7_dropDue l L u (by exact hwu.1)) ⟨Nat.le_of_ble_eq_true rfl, Nat.le_of_ble_eq_true rfl⟩ rfl (Nat.le_of_ble_eq_true rfl) ⟨Nat.le_of_ble_eq_true rfl, Nat.le_of_ble_eq_true rfl⟩ rfl dX7_turn_173 (fun u9 hP_11 => ?_)
          rw [hP_11]
          clear hP_11 u9
          refine v_iload_n (pc := 176) C 1 rfl rfl dX7_turn_176 ?_
          exact v_iret (pc := 177) C hr hlk (⟨congrArg iI (by unfold tuM; rw [show p = g 15 0 0 0 + 1 by omega] at hq; exact hq), by unfold tuM; rw [show p = g 15 0 0 0 + 1 by omega] at hu; rw [hu]⟩) dX7_turn_177
        · skip
          have hsg : 0 ≤ sg u p ∧ sg u p ≤ 1 := by (unfold sg; split <;> decide)
          have hcu := mCo_in u p (u 15 0 0 3)
          refine v_aload_n (pc := 67) C 0 rfl rfl dX7_turn_67 ?_
          refine v_iload_n (pc := 68) C 2 rfl rfl dX7_turn_68 ?_
          refine v_aload_n (pc := 69) C 0 rfl rfl dX7_turn_69 ?_
          refine gt_14_1 (pc := 70) C u_4_4 dX7_turn_70 ?_
          refine v_iconst (pc := 73) C dX7_turn_73 ?_
          refine al_15 (pc := 74) C ⟨by (first | assumption | omega), by (first | assumption | omega)⟩ dX7_turn_74 (u 15 0 0 3) (rfl) ?_
          refine v_calliV (pc := 75) C cw_RX7_77 rcv_14 (ct_X7_comingTo l L u 0 p (u 15 0 0 3) (by exact hwu.1) (by first | assumption | omega) (by first | assumption | omega) (by first | assumption | omega)) ⟨Nat.le_of_ble_eq_true rfl, Nat.le_of_ble_eq_true rfl⟩ rfl (Nat.le_of_ble_eq_true rfl) ⟨Nat.le_of_ble_eq_true rfl, Nat.le_of_ble_eq_true rfl⟩ rfl dX7_turn_75 (fun r9 u9 hP_12 => ?_)
          obtain ⟨hP_12, hP_12b⟩ := hP_12
          rw [hP_12, hP_12b]
          clear hP_12 hP_12b r9 u9
          refine v_iconst (pc := 78) C dX7_turn_78 ?_
          refine v_icmp_ne (pc := 79) C 86 ⟨by (first | assumption | omega), by (first | assumption | omega)⟩ ⟨by (first | assumption | omega), by (first | assumption | omega)⟩ (by decide) dX7_turn_79 (fun h79 => ?_) (fun h79 => ?_)
          · skip
            refine v_iconst (pc := 86) C dX7_turn_86 ?_
            refine v_topi (b := sg u p) C (by unfold sg; first | rw [if_pos (by omega)] | rw [if_neg (by omega)]) ?_
            refine v_istore_n (pc := 87) C [(3, .int (iI (sg u p))), (0, .ref (adr L 14 0 0)), (1, .int (iI q)), (2, .int (iI p))] rfl (by decide) rfl dX7_turn_87 ?_
            refine v_iconst (pc := 88) C dX7_turn_88 ?_
            refine v_istore (pc := 89) C [(4, .int (iI 0)), (3, .int (iI (sg u p))), (0, .ref (adr L 14 0 0)), (1, .int (iI q)), (2, .int (iI p))] (by decide) rfl dX7_turn_89 ?_
            have lb91 : ∀ (n9 : Nat) (v : St) (b : Int) (e : Int), (0 ≤ e ∧ e ≤ mtC g 15 0 0 9) → (v = (tpE u p (sg u p) e.toNat).1) → (b = q + (tpE u p (sg u p) e.toNat).2) → (mtC g 15 0 0 9 - e).toNat < n9 → V pp l ee { frames := 2, cells := 0, slots := 0, locals := 47 } ss mm ([.ref (adr L 14 0 0)]).toArray bel mth cx 6 L (HH L v) 0 0 (MQ bel (va_Qi (fun (r9 : Int32) (u9 : St) => r9 = iI ((tuM g).2) ∧ u9 = (tuM g).1) (fun u t => HS L u t) (Af L)) ([.ref (adr L 14 0 0)]).toArray ss 0 0 (Af L)) 91 [(0, .ref (adr L 14 0 0)), (1, .int (iI b)), (2, .int (iI p)), (3, .int (iI (sg u p))), (4, .int (iI e))] [] := by
              intro n9
              induction n9 with
              | zero => intro v b e he hv hb hm9; exact absurd hm9 (Nat.not_lt_zero _)
              | succ n9 ih9 =>
                intro v b e he hv hb hm9
                have hww := tpE_in (p := p) (a := sg u p) hwu.1 e.toNat (by omega)
                rw [← hv] at hww
                have v0 := hww.1.2.1 0 (by decide)
                have v9 := hww.1.2.1 9 (by decide)
                have v3 := hww.1.2.1 3 (by decide)
                have ve1 := hww.1.2.1 (34 + 5 * e + 1) (by omega)
                have ve3 := hww.1.2.1 (34 + 5 * e + 3) (by omega)
                have es : (e + 1).toNat = e.toNat + 1 := by omega
                have ei : ((e.toNat : Nat) : Int) = e := by omega
                have ih91 := ih9
                refine v_iload (pc := 91) C 4 rfl dX7_turn_91 ?_
                refine v_aload_n (pc := 93) C 0 rfl rfl dX7_turn_93 ?_
                refine gt_14_1 (pc := 94) C u_4_4 dX7_turn_94 ?_
                refine v_bipush (pc := 97) C rfl dX7_turn_97 ?_
                refine al_15 (pc := 99) C ⟨by (first | assumption | omega), by (first | assumption | omega)⟩ dX7_turn_99 (v 15 0 0 9) (rfl) ?_
                refine v_icmp_ge (pc := 100) C 166 ⟨by (first | assumption | omega), by (first | assumption | omega)⟩ ⟨by (first | assumption | omega), by (first | assumption | omega)⟩ (by decide) dX7_turn_100 (fun h100 => ?_) (fun h100 => ?_)
                · skip
                  refine v_iinc (pc := 166) C 2 [(2, .int (iI (p + 1))), (0, .ref (adr L 14 0 0)), (1, .int (iI b)), (3, .int (iI (sg u p))), (4, .int (iI e))] rfl (by decide) rfl dX7_turn_166 ?_
                  refine v_goto (pc := 169) C 57 (by decide) dX7_turn_169 ?_
                  refine v_lsub [1, 2, 0] rfl ?_
                  exact ih57 v b (p + 1) (by omega) (by rw [show (p + 1).toNat = p.toNat + 1 by omega, tpP, ← hu, show ((p.toNat : Nat) : Int) = p by omega]; rw [hv, show e = mtC g 15 0 0 9 by omega]) (by rw [show (p + 1).toNat = p.toNat + 1 by omega, tpP, ← hu, ← hq, show ((p.toNat : Nat) : Int) = p by omega]; rw [hb, show e = mtC g 15 0 0 9 by omega]) (by omega)
                · skip
                  have hee := hww.1.1.2.2.2.2.2.2.2.2.2 e (by omega) (by omega)
                  unfold okM at hee
                  refine v_aload_n (pc := 103) C 0 rfl rfl dX7_turn_103 ?_
                  refine v_iload (pc := 104) C 4 rfl dX7_turn_104 ?_
                  refine v_iconst (pc := 106) C dX7_turn_106 ?_
                  refine v_calliV (pc := 107) C cw_RX7_54 rcv_14 (ct_X7_ofEcho l L v e 1 (by first | assumption | omega) (by first | assumption | omega)) ⟨Nat.le_of_ble_eq_true rfl, Nat.le_of_ble_eq_true rfl⟩ rfl (Nat.le_of_ble_eq_true rfl) ⟨Nat.le_of_ble_eq_true rfl, Nat.le_of_ble_eq_true rfl⟩ rfl dX7_turn_107 (fun r9 u9 hP_13 => ?_)
                  obtain ⟨hP_13, hP_13b⟩ := hP_13
                  rw [hP_13, hP_13b]
                  clear hP_13 hP_13b r9 u9
                  refine v_iload_n (pc := 110) C 2 rfl rfl dX7_turn_110 ?_
                  refine v_icmp_ne (pc := 111) C 134 ⟨by (first | assumption | omega), by (first | assumption | omega)⟩ ⟨by (first | assumption | omega), by (first | assumption | omega)⟩ (by decide) dX7_turn_111 (fun h111 => ?_) (fun h111 => ?_)
                  · skip
                    refine v_iconst (pc := 134) C dX7_turn_134 ?_
                    refine v_istore (pc := 135) C [(5, .int (iI 0)), (0, .ref (adr L 14 0 0)), (1, .int (iI b)), (2, .int (iI p)), (3, .int (iI (sg u p))), (4, .int (iI e))] (by decide) rfl dX7_turn_135 ?_
                    refine v_iload_n (pc := 137) C 2 rfl rfl dX7_turn_137 ?_
                    refine v_iload (pc := 138) C 0 rfl dX7_turn_138 ?_
                    refine v_if_eq (pc := 140) C 157 ⟨by (first | assumption | omega), by (first | assumption | omega)⟩ (by decide) dX7_turn_140 (fun h140 => ?_) (fun h140 => ?_)
                    · skip
                      refine v_iconst (pc := 157) C dX7_turn_157 ?_
                      refine v_iadd (pc := 158) C dX7_turn_158 ?_
                      refine v_istore_n (pc := 159) C [(1, .int (iI (b + 0))), (5, .int (iI 0)), (0, .ref (adr L 14 0 0)), (2, .int (iI p)), (3, .int (iI (sg u p))), (4, .int (iI e))] rfl (by decide) rfl dX7_turn_159 ?_
                      refine v_iinc (pc := 160) C 5 [(4, .int (iI (e + 1))), (1, .int (iI (b + 0))), (5, .int (iI 0)), (0, .ref (adr L 14 0 0)), (2, .int (iI p)), (3, .int (iI (sg u p)))] rfl (by decide) rfl dX7_turn_160 ?_
                      refine v_goto (pc := 163) C 91 (by decide) dX7_turn_163 ?_
                      refine v_lsub [3, 1, 4, 5, 0] rfl ?_
                      exact ih91 v (b + 0) (e + 1) (by omega) (by rw [es, tpE, ei]; first | (rw [if_pos (by omega), ← hv]) | (rw [if_neg (by omega), ← hv])) (by rw [es, tpE, ei]; first | (rw [if_pos (by omega)]; show _ = q + ((tpE u p (sg u p) e.toNat).2 + cbR (tpE u p (sg u p) e.toNat).1 e (sg u p)); rw [← hv]; omega) | (rw [if_neg (by omega)]; omega)) (by omega)
                    · skip
                      exfalso; omega
                  · skip
                    refine v_aload_n (pc := 114) C 0 rfl rfl dX7_turn_114 ?_
                    refine v_iload (pc := 115) C 4 rfl dX7_turn_115 ?_
                    refine v_iconst (pc := 117) C dX7_turn_117 ?_
                    refine v_calliV (pc := 118) C cw_RX7_54 rcv_14 (ct_X7_ofEcho l L v e 3 (by first | assumption | omega) (by first | assumption | omega)) ⟨Nat.le_of_ble_eq_true rfl, Nat.le_of_ble_eq_true rfl⟩ rfl (Nat.le_of_ble_eq_true rfl) ⟨Nat.le_of_ble_eq_true rfl, Nat.le_of_ble_eq_true rfl⟩ rfl dX7_turn_118 (fun r9 u9 hP_14 => ?_)
                    obtain ⟨hP_14, hP_14b⟩ := hP_14
                    rw [hP_14, hP_14b]
                    clear hP_14 hP_14b r9 u9
                    refine v_aload_n (pc := 121) C 0 rfl rfl dX7_turn_121 ?_
                    refine gt_14_1 (pc := 122) C u_4_4 dX7_turn_122 ?_
                    refine v_iconst (pc := 125) C dX7_turn_125 ?_
                    refine al_15 (pc := 126) C ⟨by (first | assumption | omega), by (first | assumption | omega)⟩ dX7_turn_126 (v 15 0 0 3) (rfl) ?_
                    refine v_icmp_ne (pc := 127) C 134 ⟨by (first | assumption | omega), by (first | assumption | omega)⟩ ⟨by (first | assumption | omega), by (first | assumption | omega)⟩ (by decide) dX7_turn_127 (fun h127 => ?_) (fun h127 => ?_)
                    · skip
                      refine v_iconst (pc := 134) C dX7_turn_134 ?_
                      refine v_istore (pc := 135) C [(5, .int (iI 0)), (0, .ref (adr L 14 0 0)), (1, .int (iI b)), (2, .int (iI p)), (3, .int (iI (sg u p))), (4, .int (iI e))] (by decide) rfl dX7_turn_135 ?_
                      refine v_iload_n (pc := 137) C 2 rfl rfl dX7_turn_137 ?_
                      refine v_iload (pc := 138) C 0 rfl dX7_turn_138 ?_
                      refine v_if_eq (pc := 140) C 157 ⟨by (first | assumption | omega), by (first | assumption | omega)⟩ (by decide) dX7_turn_140 (fun h140 => ?_) (fun h140 => ?_)
                      · skip
                        refine v_iconst (pc := 157) C dX7_turn_157 ?_
                        refine v_iadd (pc := 158) C dX7_turn_158 ?_
                        refine v_istore_n (pc := 159) C [(1, .int (iI (b + 0))), (5, .int (iI 0)), (0, .ref (adr L 14 0 0)), (2, .int (iI p)), (3, .int (iI (sg u p))), (4, .int (iI e))] rfl (by decide) rfl dX7_turn_159 ?_
                        refine v_iinc (pc := 160) C 5 [(4, .int (iI (e + 1))), (1, .int (iI (b + 0))), (5, .int (iI 0)), (0, .ref (adr L 14 0 0)), (2, .int (iI p)), (3, .int (iI (sg u p)))] rfl (by decide) rfl dX7_turn_160 ?_
                        refine v_goto (pc := 163) C 91 (by decide) dX7_turn_163 ?_
                        refine v_lsub [3, 1, 4, 5, 0] rfl ?_
                        exact ih91 v (b + 0) (e + 1) (by omega) (by rw [es, tpE, ei]; first | (rw [if_pos (by omega), ← hv]) | (rw [if_neg (by omega), ← hv])) (by rw [es, tpE, ei]; first | (rw [if_pos (by omega)]; show _ = q + ((tpE u p (sg u p) e.toNat).2 + cbR (tpE u p (sg u p) e.toNat).1 e (sg u p)); rw [← hv]; omega) | (rw [if_neg (by omega)]; omega)) (by omega)
                      · skip
                        exfalso; omega
                    · skip
                      refine v_iconst (pc := 130) C dX7_turn_130 ?_
                      refine v_goto (pc := 131) C 135 (by decide) dX7_turn_131 ?_
                      refine v_istore (pc := 135) C [(5, .int (iI 1)), (0, .ref (adr L 14 0 0)), (1, .int (iI b)), (2, .int (iI p)), (3, .int (iI (sg u p))), (4, .int (iI e))] (by decide) rfl dX7_turn_135 ?_
                      refine v_iload_n (pc := 137) C 2 rfl rfl dX7_turn_137 ?_
                      refine v_iload (pc := 138) C 0 rfl dX7_turn_138 ?_
                      refine v_if_eq (pc := 140) C 157 ⟨by (first | assumption | omega), by (first | assumption | omega)⟩ (by decide) dX7_turn_140 (fun h140 => ?_) (fun h140 => ?_)
                      · skip
                        exfalso; omega
                      · skip
                        refine v_aload_n (pc := 143) C 1 rfl rfl dX7_turn_143 ?_
                        refine v_iload (pc := 144) C 5 rfl dX7_turn_144 ?_
                        refine v_iload_n (pc := 146) C 4 rfl rfl dX7_turn_146 ?_
                        refine v_calliV (pc := 147) C cw_RX7_80 rcv_14 (ct_X7_comesBack l L v e (sg u p) (by exact hww.1.1) (by first | assumption | omega) (by first | assumption | omega)) ⟨Nat.le_of_ble_eq_true rfl, Nat.le_of_ble_eq_true rfl⟩ rfl (Nat.le_of_ble_eq_true rfl) ⟨Nat.le_of_ble_eq_true rfl, Nat.le_of_ble_eq_true rfl⟩ rfl dX7_turn_147 (fun r9 u9 hP_15 => ?_)
                        obtain ⟨hP_15, hP_15b⟩ := hP_15
                        rw [hP_15, hP_15b]
                        clear hP_15 hP_15b r9 u9
                        refine v_if_eq (pc := 150) C 157 ⟨by have := cbR_01 v e (sg u p); omega, by have := cbR_01 v e (sg u p); omega⟩ (by decide) dX7_turn_150 (fun h150 => ?_) (fun h150 => ?_)
                        · skip
                          have hc01 := cbR_01 v e (sg u p)
                          refine v_iconst (pc := 157) C dX7_turn_157 ?_
                          refine v_iadd (pc := 158) C dX7_turn_158 ?_
                          refine v_istore_n (pc := 159) C [(1, .int (iI (b + 0))), (5, .int (iI 1)), (0, .ref (adr L 14 0 0)), (2, .int (iI p)), (3, .int (iI (sg u p))), (4, .int (iI e))] rfl (by decide) rfl dX7_turn_159 ?_
                          refine v_iinc (pc := 160) C 5 [(4, .int (iI (e + 1))), (1, .int (iI (b + 0))), (5, .int (iI 1)), (0, .ref (adr L 14 0 0)), (2, .int (iI p)), (3, .int (iI (sg u p)))] rfl (by decide) rfl dX7_turn_160 ?_
                          refine v_goto (pc := 163) C 91 (by decide) dX7_turn_163 ?_
                          refine v_lsub [3, 1, 4, 5, 0] rfl ?_
                          exact ih91 (cbG v e (sg u p)) (b + 0) (e + 1) (by omega) (by rw [es, tpE, ei]; first | (rw [if_pos (by omega), ← hv]) | (rw [if_neg (by omega), ← hv])) (by rw [es, tpE, ei]; first | (rw [if_pos (by omega)]; show _ = q + ((tpE u p (sg u p) e.toNat).2 + cbR (tpE u p (sg u p) e.toNat).1 e (sg u p)); rw [← hv]; omega) | (rw [if_neg (by omega)]; omega)) (by omega)
                        · skip
                          have hc01 := cbR_01 v e (sg u p)
                          refine v_iconst (pc := 153) C dX7_turn_153 ?_
                          refine v_goto (pc := 154) C 158 (by decide) dX7_turn_154 ?_
                          refine v_iadd (pc := 158) C dX7_turn_158 ?_
                          refine v_istore_n (pc := 159) C [(1, .int (iI (b + 1))), (5, .int (iI 1)), (0, .ref (adr L 14 0 0)), (2, .int (iI p)), (3, .int (iI (sg u p))), (4, .int (iI e))] rfl (by decide) rfl dX7_turn_159 ?_
                          refine v_iinc (pc := 160) C 5 [(4, .int (iI (e + 1))), (1, .int (iI (b + 1))), (5, .int (iI 1)), (0, .ref (adr L 14 0 0)), (2, .int (iI p)), (3, .int (iI (sg u p)))] rfl (by decide) rfl dX7_turn_160 ?_
                          refine v_goto (pc := 163) C 91 (by decide) dX7_turn_163 ?_
                          refine v_lsub [3, 1, 4, 5, 0] rfl ?_
                          exact ih91 (cbG v e (sg u p)) (b + 1) (e + 1) (by omega) (by rw [es, tpE, ei]; first | (rw [if_pos (by omega), ← hv]) | (rw [if_neg (by omega), ← hv])) (by rw [es, tpE, ei]; first | (rw [if_pos (by omega)]; show _ = q + ((tpE u p (sg u p) e.toNat).2 + cbR (tpE u p (sg u p) e.toNat).1 e (sg u p)); rw [← hv]; omega) | (rw [if_neg (by omega)]; omega)) (by omega)
            refine v_lsub [2, 3, 4, 1, 0] rfl ?_
            exact lb91 _ u q 0 (by omega) (by rfl) (by simp [tpE]) (Nat.lt_succ_self _)
          · skip
            refine v_iconst (pc := 82) C dX7_turn_82 ?_
            refine v_goto (pc := 83) C 87 (by decide) dX7_turn_83 ?_
            refine v_topi (b := sg u p) C (by unfold sg; first | rw [if_pos (by omega)] | rw [if_neg (by omega)]) ?_
            refine v_istore_n (pc := 87) C [(3, .int (iI (sg u p))), (0, .ref (adr L 14 0 0)), (1, .int (iI q)), (2, .int (iI p))] rfl (by decide) rfl dX7_turn_87 ?_
            refine v_iconst (pc := 88) C dX7_turn_88 ?_
            refine v_istore (pc := 89) C [(4, .int (iI 0)), (3, .int (iI (sg u p))), (0, .ref (adr L 14 0 0)), (1, .int (iI q)), (2, .int (iI p))] (by decide) rfl dX7_turn_89 ?_
            have lb91 : ∀ (n9 : Nat) (v : St) (b : Int) (e : Int), (0 ≤ e ∧ e ≤ mtC g 15 0 0 9) → (v = (tpE u p (sg u p) e.toNat).1) → (b = q + (tpE u p (sg u p) e.toNat).2) → (mtC g 15 0 0 9 - e).toNat < n9 → V pp l ee { frames := 2, cells := 0, slots := 0, locals := 47 } ss mm ([.ref (adr L 14 0 0)]).toArray bel mth cx 6 L (HH L v) 0 0 (MQ bel (va_Qi (fun (r9 : Int32) (u9 : St) => r9 = iI ((tuM g).2) ∧ u9 = (tuM g).1) (fun u t => HS L u t) (Af L)) ([.ref (adr L 14 0 0)]).toArray ss 0 0 (Af L)) 91 [(0, .ref (adr L 14 0 0)), (1, .int (iI b)), (2, .int (iI p)), (3, .int (iI (sg u p))), (4, .int (iI e))] [] := by
              intro n9
              induction n9 with
              | zero => intro v b e he hv hb hm9; exact absurd hm9 (Nat.not_lt_zero _)
              | succ n9 ih9 =>
                intro v b e he hv hb hm9
                have hww := tpE_in (p := p) (a := sg u p) hwu.1 e.toNat (by omega)
                rw [← hv] at hww
                have v0 := hww.1.2.1 0 (by decide)
                have v9 := hww.1.2.1 9 (by decide)
                have v3 := hww.1.2.1 3 (by decide)
                have ve1 := hww.1.2.1 (34 + 5 * e + 1) (by omega)
                have ve3 := hww.1.2.1 (34 + 5 * e + 3) (by omega)
                have es : (e + 1).toNat = e.toNat + 1 := by omega
                have ei : ((e.toNat : Nat) : Int) = e := by omega
                have ih91 := ih9
                refine v_iload (pc := 91) C 4 rfl dX7_turn_91 ?_
                refine v_aload_n (pc := 93) C 0 rfl rfl dX7_turn_93 ?_
                refine gt_14_1 (pc := 94) C u_4_4 dX7_turn_94 ?_
                refine v_bipush (pc := 97) C rfl dX7_turn_97 ?_
                refine al_15 (pc := 99) C ⟨by (first | assumption | omega), by (first | assumption | omega)⟩ dX7_turn_99 (v 15 0 0 9) (rfl) ?_
                refine v_icmp_ge (pc := 100) C 166 ⟨by (first | assumption | omega), by (first | assumption | omega)⟩ ⟨by (first | assumption | omega), by (first | assumption | omega)⟩ (by decide) dX7_turn_100 (fun h100 => ?_) (fun h100 => ?_)
                · skip
                  refine v_iinc (pc := 166) C 2 [(2, .int (iI (p + 1))), (0, .ref (adr L 14 0 0)), (1, .int (iI b)), (3, .int (iI (sg u p))), (4, .int (iI e))] rfl (by decide) rfl dX7_turn_166 ?_
                  refine v_goto (pc := 169) C 57 (by decide) dX7_turn_169 ?_
                  refine v_lsub [1, 2, 0] rfl ?_
                  exact ih57 v b (p + 1) (by omega) (by rw [show (p + 1).toNat = p.toNat + 1 by omega, tpP, ← hu, show ((p.toNat : Nat) : Int) = p by omega]; rw [hv, show e = mtC g 15 0 0 9 by omega]) (by rw [show (p + 1).toNat = p.toNat + 1 by omega, tpP, ← hu, ← hq, show ((p.toNat : Nat) : Int) = p by omega]; rw [hb, show e = mtC g 15 0 0 9 by omega]) (by omega)
                · skip
                  have hee := hww.1.1.2.2.2.2.2.2.2.2.2 e (by omega) (by omega)
                  unfold okM at hee
                  refine v_aload_n (pc := 103) C 0 rfl rfl dX7_turn_103 ?_
                  refine v_iload (pc := 104) C 4 rfl dX7_turn_104 ?_
                  refine v_iconst (pc := 106) C dX7_turn_106 ?_
                  refine v_calliV (pc := 107) C cw_RX7_54 rcv_14 (ct_X7_ofEcho l L v e 1 (by first | assumption | omega) (by first | assumption | omega)) ⟨Nat.le_of_ble_eq_true rfl, Nat.le_of_ble_eq_true rfl⟩ rfl (Nat.le_of_ble_eq_true rfl) ⟨Nat.le_of_ble_eq_true rfl, Nat.le_of_ble_eq_true rfl⟩ rfl dX7_turn_107 (fun r9 u9 hP_16 => ?_)
                  obtain ⟨hP_16, hP_16b⟩ := hP_16
                  rw [hP_16, hP_16b]
                  clear hP_16 hP_16b r9 u9
                  refine v_iload_n (pc := 110) C 2 rfl rfl dX7_turn_110 ?_
                  refine v_icmp_ne (pc := 111) C 134 ⟨by (first | assumption | omega), by (first | assumption | omega)⟩ ⟨by (first | assumption | omega), by (first | assumption | omega)⟩ (by decide) dX7_turn_111 (fun h111 => ?_) (fun h111 => ?_)
                  · skip
                    refine v_iconst (pc := 134) C dX7_turn_134 ?_
                    refine v_istore (pc := 135) C [(5, .int (iI 0)), (0, .ref (adr L 14 0 0)), (1, .int (iI b)), (2, .int (iI p)), (3, .int (iI (sg u p))), (4, .int (iI e))] (by decide) rfl dX7_turn_135 ?_
                    refine v_iload_n (pc := 137) C 2 rfl rfl dX7_turn_137 ?_
                    refine v_iload (pc := 138) C 0 rfl dX7_turn_138 ?_
                    refine v_if_eq (pc := 140) C 157 ⟨by (first | assumption | omega), by (first | assumption | omega)⟩ (by decide) dX7_turn_140 (fun h140 => ?_) (fun h140 => ?_)
                    · skip
                      refine v_iconst (pc := 157) C dX7_turn_157 ?_
                      refine v_iadd (pc := 158) C dX7_turn_158 ?_
                      refine v_istore_n (pc := 159) C [(1, .int (iI (b + 0))), (5, .int (iI 0)), (0, .ref (adr L 14 0 0)), (2, .int (iI p)), (3, .int (iI (sg u p))), (4, .int (iI e))] rfl (by decide) rfl dX7_turn_159 ?_
                      refine v_iinc (pc := 160) C 5 [(4, .int (iI (e + 1))), (1, .int (iI (b + 0))), (5, .int (iI 0)), (0, .ref (adr L 14 0 0)), (2, .int (iI p)), (3, .int (iI (sg u p)))] rfl (by decide) rfl dX7_turn_160 ?_
                      refine v_goto (pc := 163) C 91 (by decide) dX7_turn_163 ?_
                      refine v_lsub [3, 1, 4, 5, 0] rfl ?_
                      exact ih91 v (b + 0) (e + 1) (by omega) (by rw [es, tpE, ei]; first | (rw [if_pos (by omega), ← hv]) | (rw [if_neg (by omega), ← hv])) (by rw [es, tpE, ei]; first | (rw [if_pos (by omega)]; show _ = q + ((tpE u p (sg u p) e.toNat).2 + cbR (tpE u p (sg u p) e.toNat).1 e (sg u p)); rw [← hv]; omega) | (rw [if_neg (by omega)]; omega)) (by omega)
                    · skip
                      exfalso; omega
                  · skip
                    refine v_aload_n (pc := 114) C 0 rfl rfl dX7_turn_114 ?_
                    refine v_iload (pc := 115) C 4 rfl dX7_turn_115 ?_
                    refine v_iconst (pc := 117) C dX7_turn_117 ?_
                    refine v_calliV (pc := 118) C cw_RX7_54 rcv_14 (ct_X7_ofEcho l L v e 3 (by first | assumption | omega) (by first | assumption | omega)) ⟨Nat.le_of_ble_eq_true rfl, Nat.le_of_ble_eq_true rfl⟩ rfl (Nat.le_of_ble_eq_true rfl) ⟨Nat.le_of_ble_eq_true rfl, Nat.le_of_ble_eq_true rfl⟩ rfl dX7_turn_118 (fun r9 u9 hP_17 => ?_)
                    obtain ⟨hP_17, hP_17b⟩ := hP_17
                    rw [hP_17, hP_17b]
                    clear hP_17 hP_17b r9 u9
                    refine v_aload_n (pc := 121) C 0 rfl rfl dX7_turn_121 ?_
                    refine gt_14_1 (pc := 122) C u_4_4 dX7_turn_122 ?_
                    refine v_iconst (pc := 125) C dX7_turn_125 ?_
                    refine al_15 (pc := 126) C ⟨by (first | assumption | omega), by (first | assumption | omega)⟩ dX7_turn_126 (v 15 0 0 3) (rfl) ?_
                    refine v_icmp_ne (pc := 127) C 134 ⟨by (first | assumption | omega), by (first | assumption | omega)⟩ ⟨by (first | assumption | omega), by (first | assumption | omega)⟩ (by decide) dX7_turn_127 (fun h127 => ?_) (fun h127 => ?_)
                    · skip
                      refine v_iconst (pc := 134) C dX7_turn_134 ?_
                      refine v_istore (pc := 135) C [(5, .int (iI 0)), (0, .ref (adr L 14 0 0)), (1, .int (iI b)), (2, .int (iI p)), (3, .int (iI (sg u p))), (4, .int (iI e))] (by decide) rfl dX7_turn_135 ?_
                      refine v_iload_n (pc := 137) C 2 rfl rfl dX7_turn_137 ?_
                      refine v_iload (pc := 138) C 0 rfl dX7_turn_138 ?_
                      refine v_if_eq (pc := 140) C 157 ⟨by (first | assumption | omega), by (first | assumption | omega)⟩ (by decide) dX7_turn_140 (fun h140 => ?_) (fun h140 => ?_)
                      · skip
                        refine v_iconst (pc := 157) C dX7_turn_157 ?_
                        refine v_iadd (pc := 158) C dX7_turn_158 ?_
                        refine v_istore_n (pc := 159) C [(1, .int (iI (b + 0))), (5, .int (iI 0)), (0, .ref (adr L 14 0 0)), (2, .int (iI p)), (3, .int (iI (sg u p))), (4, .int (iI e))] rfl (by decide) rfl dX7_turn_159 ?_
                        refine v_iinc (pc := 160) C 5 [(4, .int (iI (e + 1))), (1, .int (iI (b + 0))), (5, .int (iI 0)), (0, .ref (adr L 14 0 0)), (2, .int (iI p)), (3, .int (iI (sg u p)))] rfl (by decide) rfl dX7_turn_160 ?_
                        refine v_goto (pc := 163) C 91 (by decide) dX7_turn_163 ?_
                        refine v_lsub [3, 1, 4, 5, 0] rfl ?_
                        exact ih91 v (b + 0) (e + 1) (by omega) (by rw [es, tpE, ei]; first | (rw [if_pos (by omega), ← hv]) | (rw [if_neg (by omega), ← hv])) (by rw [es, tpE, ei]; first | (rw [if_pos (by omega)]; show _ = q + ((tpE u p (sg u p) e.toNat).2 + cbR (tpE u p (sg u p) e.toNat).1 e (sg u p)); rw [← hv]; omega) | (rw [if_neg (by omega)]; omega)) (by omega)
                      · skip
                        exfalso; omega
                    · skip
                      refine v_iconst (pc := 130) C dX7_turn_130 ?_
                      refine v_goto (pc := 131) C 135 (by decide) dX7_turn_131 ?_
                      refine v_istore (pc := 135) C [(5, .int (iI 1)), (0, .ref (adr L 14 0 0)), (1, .int (iI b)), (2, .int (iI p)), (3, .int (iI (sg u p))), (4, .int (iI e))] (by decide) rfl dX7_turn_135 ?_
                      refine v_iload_n (pc := 137) C 2 rfl rfl dX7_turn_137 ?_
                      refine v_iload (pc := 138) C 0 rfl dX7_turn_138 ?_
                      refine v_if_eq (pc := 140) C 157 ⟨by (first | assumption | omega), by (first | assumption | omega)⟩ (by decide) dX7_turn_140 (fun h140 => ?_) (fun h140 => ?_)
                      · skip
                        exfalso; omega
                      · skip
                        refine v_aload_n (pc := 143) C 1 rfl rfl dX7_turn_143 ?_
                        refine v_iload (pc := 144) C 5 rfl dX7_turn_144 ?_
                        refine v_iload_n (pc := 146) C 4 rfl rfl dX7_turn_146 ?_
                        refine v_calliV (pc := 147) C cw_RX7_80 rcv_14 (ct_X7_comesBack l L v e (sg u p) (by exact hww.1.1) (by first | assumption | omega) (by first | assumption | omega)) ⟨Nat.le_of_ble_eq_true rfl, Nat.le_of_ble_eq_true rfl⟩ rfl (Nat.le_of_ble_eq_true rfl) ⟨Nat.le_of_ble_eq_true rfl, Nat.le_of_ble_eq_true rfl⟩ rfl dX7_turn_147 (fun r9 u9 hP_18 => ?_)
                        obtain ⟨hP_18, hP_18b⟩ := hP_18
                        rw [hP_18, hP_18b]
                        clear hP_18 hP_18b r9 u9
                        refine v_if_eq (pc := 150) C 157 ⟨by have := cbR_01 v e (sg u p); omega, by have := cbR_01 v e (sg u p); omega⟩ (by decide) dX7_turn_150 (fun h150 => ?_) (fun h150 => ?_)
                        · skip
                          have hc01 := cbR_01 v e (sg u p)
                          refine v_iconst (pc := 157) C dX7_turn_157 ?_
                          refine v_iadd (pc := 158) C dX7_turn_158 ?_
                          refine v_istore_n (pc := 159) C [(1, .int (iI (b + 0))), (5, .int (iI 1)), (0, .ref (adr L 14 0 0)), (2, .int (iI p)), (3, .int (iI (sg u p))), (4, .int (iI e))] rfl (by decide) rfl dX7_turn_159 ?_
                          refine v_iinc (pc := 160) C 5 [(4, .int (iI (e + 1))), (1, .int (iI (b + 0))), (5, .int (iI 1)), (0, .ref (adr L 14 0 0)), (2, .int (iI p)), (3, .int (iI (sg u p)))] rfl (by decide) rfl dX7_turn_160 ?_
                          refine v_goto (pc := 163) C 91 (by decide) dX7_turn_163 ?_
                          refine v_lsub [3, 1, 4, 5, 0] rfl ?_
                          exact ih91 (cbG v e (sg u p)) (b + 0) (e + 1) (by omega) (by rw [es, tpE, ei]; first | (rw [if_pos (by omega), ← hv]) | (rw [if_neg (by omega), ← hv])) (by rw [es, tpE, ei]; first | (rw [if_pos (by omega)]; show _ = q + ((tpE u p (sg u p) e.toNat).2 + cbR (tpE u p (sg u p) e.toNat).1 e (sg u p)); rw [← hv]; omega) | (rw [if_neg (by omega)]; omega)) (by omega)
                        · skip
                          have hc01 := cbR_01 v e (sg u p)
                          refine v_iconst (pc := 153) C dX7_turn_153 ?_
                          refine v_goto (pc := 154) C 158 (by decide) dX7_turn_154 ?_
                          refine v_iadd (pc := 158) C dX7_turn_158 ?_
                          refine v_istore_n (pc := 159) C [(1, .int (iI (b + 1))), (5, .int (iI 1)), (0, .ref (adr L 14 0 0)), (2, .int (iI p)), (3, .int (iI (sg u p))), (4, .int (iI e))] rfl (by decide) rfl dX7_turn_159 ?_
                          refine v_iinc (pc := 160) C 5 [(4, .int (iI (e + 1))), (1, .int (iI (b + 1))), (5, .int (iI 1)), (0, .ref (adr L 14 0 0)), (2, .int (iI p)), (3, .int (iI (sg u p)))] rfl (by decide) rfl dX7_turn_160 ?_
                          refine v_goto (pc := 163) C 91 (by decide) dX7_turn_163 ?_
                          refine v_lsub [3, 1, 4, 5, 0] rfl ?_
                          exact ih91 (cbG v e (sg u p)) (b + 1) (e + 1) (by omega) (by rw [es, tpE, ei]; first | (rw [if_pos (by omega), ← hv]) | (rw [if_neg (by omega), ← hv])) (by rw [es, tpE, ei]; first | (rw [if_pos (by omega)]; show _ = q + ((tpE u p (sg u p) e.toNat).2 + cbR (tpE u p (sg u p) e.toNat).1 e (sg u p)); rw [← hv]; omega) | (rw [if_neg (by omega)]; omega)) (by omega)
            refine v_lsub [2, 3, 4, 1, 0] rfl ?_
            exact lb91 _ u q 0 (by omega) (by rfl) (by simp [tpE]) (Nat.lt_succ_self _)
    refine v_lsub [2, 1, 0] rfl ?_
    exact lb57 _ (mtC g) 0 0 (by omega) (by rfl) (by rfl) (Nat.lt_succ_self _)
