/-! the reference: its changes -/
theorem t0_3 (g : St) : t0 g 14 0 0 3 = g 14 0 0 3 := up_i (by decide)
theorem tuM_in {g : St} (h : wm (g 15 0 0) 1) (hc : g 15 0 0 3 + 1 ≤ 100000) : wm ((tuM g).1 15 0 0) 1 ∧ (tuM g).1 15 0 0 3 = g 15 0 0 3 + 1 ∧ 0 ≤ (tuM g).2 ∧ (tuM g).2 ≤ 984 ∧ (tuM g).1 15 0 0 0 = g 15 0 0 0 := by
  have hmc := wm_mt h hc
  have hp := tpP_in hmc (g 15 0 0 0 + 1).toNat
  have hs := h.1
  refine ⟨wm_dd hp.1.1, ?_, hp.2.1, ?_, ?_⟩
  · show ddG _ 15 0 0 3 = _
    unfold ddG; rw [up_i (by decide), dpM_lo _ _ (by decide), hp.1.2.1 3 (by decide), mtC_3]
  · have := hp.2.2
    show (tpP (mtC g) (g 15 0 0 0 + 1).toNat).2 ≤ 984
    omega
  · show ddG _ 15 0 0 0 = _
    unfold ddG; rw [up_i (by decide), dpM_lo _ _ (by decide), hp.1.2.1 0 (by decide), mtC_x g (by decide) (by decide) (by decide)]
def tuN (g : St) : Nat → St × Int
  | 0 => (g, 0)
  | n + 1 => ((tuM (tuN g n).1).1, (tuN g n).2 + (tuM (tuN g n).1).2)
theorem tuN_in {g : St} (h : wm (g 15 0 0) 1) : ∀ n : Nat, g 15 0 0 3 + n ≤ 100000 → wm ((tuN g n).1 15 0 0) 1 ∧ (tuN g n).1 15 0 0 3 = g 15 0 0 3 + n ∧ 0 ≤ (tuN g n).2 ∧ (tuN g n).2 ≤ 984 * n
  | 0, _ => ⟨h, by simp [tuN], by simp [tuN], by simp [tuN]⟩
  | n + 1, hn => by
    have ih := tuN_in h n (by omega)
    have ht := tuM_in ih.1 (by omega)
    rw [tuN]
    exact ⟨ht.1, by show (tuM (tuN g n).1).1 15 0 0 3 = _; omega, by show 0 ≤ (tuN g n).2 + _; omega, by show (tuN g n).2 + _ ≤ _; omega⟩
def furM (g : St) : Int := mxN (fun e => g 15 0 0 (34 + 5 * e + 1)) (g 15 0 0 9).toNat (mxN (fun p => g 15 0 0 (10 + 6 * p + 0)) 4 (g 15 0 0 4))
theorem mxN_at {f : Int → Int} {i b v : Int} (h : 0 ≤ i) : mxN f (i + 1).toNat b ≤ v ↔ mxN f i.toNat b ≤ v ∧ f i ≤ v := by
  rw [mxN_s h]; omega
def doR (g : St) : Int := if g 14 0 0 9 = 99 then (if dcR g (g 14 0 0 10) = -1 then 0 else 1) else if g 14 0 0 9 = 109 then (if mvRM g (g 14 0 0 10) (g 14 0 0 11) = -1 then 0 else 1) else if g 15 0 0 3 + g 14 0 0 10 ≤ 99999 then 1 else 0
def doM (g : St) : St := if g 14 0 0 9 = 99 then dcM g (g 14 0 0 10) (g 14 0 0 11) else if g 14 0 0 9 = 109 then mvGM g (g 14 0 0 10) (g 14 0 0 11) else if g 15 0 0 3 + g 14 0 0 10 ≤ 99999 then (tuN g (g 14 0 0 10).toNat).1 else g
theorem svA_f (g : St) {f : Nat} (h : f ≠ 14) (h2 : f ≠ 16) : svA g f = g f := by
  unfold svA; split
  · rw [up_ff h]; funext k j x; simp only [shM]; rw [if_neg (by simp [h2])]
  · rfl
theorem svM_f (g : St) {f : Nat} (h : f ≠ 14) (h2 : f ≠ 16) : svM g f = g f := by
  unfold svM; rw [up_ff h]
  have : cpM (svA g) (svA g 14 0 0 3) 154 f = svA g f := by funext k j x; simp only [cpM]; rw [if_neg (by simp [h2])]
  rw [this, svA_f g h h2]
theorem sv_15 (g : St) : svM (t0 g) 15 = g 15 := by rw [svM_f _ (by decide) (by decide), t0_f (by decide)]
theorem mUw_15 {g u : St} (h : u 15 = g 15) (p : Int) : mUw u p = mUw g p := by unfold mUw mOf; rw [h]
def ksM (g : St) (a n : Int) : St := fun f k j x => if f = 17 ∧ k = 0 ∧ j = 0 ∧ (154 * a ≤ x ∧ x < 154 * a + n) then g 15 0 0 (x - 154 * a) else g f k j x
def gbM (g : St) (q : Nat) (m n : Int) : St := fun f k j x => if f = 15 ∧ k = 0 ∧ j = 0 ∧ (0 ≤ x ∧ x < n) then g q 0 0 (m + x) else g f k j x
theorem ksM_0 (g : St) (a : Int) : ksM g a 0 = g := by funext f k j x; simp only [ksM]; rw [if_neg (by omega)]
theorem ksM_s (g : St) (a i : Int) (h : 0 ≤ i) : up (ksM g a i) 17 0 0 (154 * a + i) (g 15 0 0 i) = ksM g a (i + 1) := by
  funext f k j x; simp only [ksM, up]
  by_cases hx : x = 154 * a + i
  · subst hx; rw [show 154 * a + i - 154 * a = i by omega]; grind
  · grind
theorem gbM_0 (g : St) (q : Nat) (m : Int) : gbM g q m 0 = g := by funext f k j x; simp only [gbM]; rw [if_neg (by omega)]
theorem gbM_s (g : St) (q : Nat) (m i : Int) (h : 0 ≤ i) : up (gbM g q m i) 15 0 0 i (g q 0 0 (m + i)) = gbM g q m (i + 1) := by
  funext f k j x; simp only [gbM, up]; grind
theorem gbM_f (g : St) (q : Nat) (m i : Int) {f : Nat} (h : f ≠ 15) : gbM g q m i f = g f := by
  funext k j x; simp only [gbM]; rw [if_neg (by simp [h])]

theorem dcR_in {g : St} {p : Int} (h : wm (g 15 0 0) 1) (hp : 0 ≤ p ∧ p < 4) : -1 ≤ dcR g p ∧ dcR g p ≤ 100 := by
  have hpl := h.2.2.2.2.2.2.2.2.1 p hp.1 hp.2
  have h0 : 1 ≤ mD1 g p 0 ∧ mD1 g p 0 ≤ 100 := mDl_in h hpl
  have h1 : 1 ≤ mD1 g p 1 ∧ mD1 g p 1 ≤ 100 := mDl_in h hpl
  unfold dcR; (repeat' split) <;> omega

theorem cw_RX7_44 : CW RX7 44 RX7 yX7_save cX7_save 2 none 0 := ⟨u_8_21, u_8_22, u_8_23, u_1_5, u_9_0, by decide +kernel⟩
theorem cw_RX7_87 : CW RX7 87 RX7 yX7_turn cX7_turn 6 (some .int) 0 := ⟨u_15_13, u_15_14, u_15_15, u_1_5, u_15_16, by decide +kernel⟩
theorem cw_RX7_95 : CW RX7 95 RX7 yX7_doesCall cX7_doesCall 5 (some .int) 2 := ⟨u_9_2, u_9_3, u_9_4, u_1_5, u_9_5, by decide +kernel⟩
theorem cw_RX7_98 : CW RX7 98 RX7 yX7_doesWalk cX7_doesWalk 4 (some .int) 2 := ⟨u_10_21, u_10_22, u_10_23, u_1_5, u_11_0, by decide +kernel⟩
theorem cw_RX7_101 : CW RX7 101 RX7 yX7_hasRoom cX7_hasRoom 4 (some .boolean) 1 := ⟨u_12_18, u_12_19, u_12_20, u_1_5, u_12_21, by decide +kernel⟩
theorem cw_RX7_105 : CW RX7 105 RX7 yX7_doesPass cX7_doesPass 4 (some .int) 1 := ⟨u_15_9, u_15_10, u_15_11, u_1_5, u_15_12, by decide +kernel⟩
set_option maxHeartbeats 4000000 in
set_option maxRecDepth 100000 in
theorem ct_X7_doesPass (l : Launch) (L : Lay) (g : St) (n : Int) (hm : wm (g 15 0 0) 1) (hn : 0 ≤ n ∧ n ≤ 99) (hc : g 15 0 0 3 + n ≤ 100000) : Met l yX7_doesPass (.code yX7_doesPass cX7_doesPass 4 (some .int) :: wsL_law) { frames := 3, cells := 0, slots := 0, locals := 72 } (va_Pc [.ref (adr L 14 0 0), .int (iI n)] (HS L g)) (va_Qi (fun (r9 : Int32) (u9 : St) => r9 = iI ((tuN g n.toNat).2) ∧ u9 = (tuN g n.toNat).1) (fun u t => HS L u t) (Af L)) 0 0 (Af L) := by
  refine ct_mk (by decide +kernel) (Nat.le_of_ble_eq_true rfl) ?_
  intro pp ee ss mm bel mth cx C hr hlk
  show V pp l ee { frames := 3, cells := 0, slots := 0, locals := 72 } ss mm ([.ref (adr L 14 0 0), .int (iI n)]).toArray bel mth cx 4 L (HH L g) 0 0 _ 0 [(0, .ref (adr L 14 0 0)), (1, .int (iI n))] []
  refine v_iconst (pc := 0) C dX7_doesPass_0 ?_
  refine v_istore_n (pc := 1) C [(2, .int (iI 0)), (0, .ref (adr L 14 0 0)), (1, .int (iI n))] rfl (by decide) rfl dX7_doesPass_1 ?_
  refine v_iconst (pc := 2) C dX7_doesPass_2 ?_
  refine v_istore_n (pc := 3) C [(3, .int (iI 0)), (2, .int (iI 0)), (0, .ref (adr L 14 0 0)), (1, .int (iI n))] rfl (by decide) rfl dX7_doesPass_3 ?_
  have lb4 : ∀ (n9 : Nat) (u : St) (q : Int) (i : Int), (0 ≤ i ∧ i ≤ n) → (u = (tuN g i.toNat).1) → (q = (tuN g i.toNat).2) → (n - i).toNat < n9 → V pp l ee { frames := 3, cells := 0, slots := 0, locals := 72 } ss mm ([.ref (adr L 14 0 0), .int (iI n)]).toArray bel mth cx 4 L (HH L u) 0 0 (MQ bel (va_Qi (fun (r9 : Int32) (u9 : St) => r9 = iI ((tuN g n.toNat).2) ∧ u9 = (tuN g n.toNat).1) (fun u t => HS L u t) (Af L)) ([.ref (adr L 14 0 0), .int (iI n)]).toArray ss 0 0 (Af L)) 4 [(0, .ref (adr L 14 0 0)), (1, .int (iI n)), (2, .int (iI q)), (3, .int (iI i))] [] := by
    intro n9
    induction n9 with
    | zero => intro u q i hi hu hq hm9; exact absurd hm9 (Nat.not_lt_zero _)
    | succ n9 ih9 =>
      intro u q i hi hu hq hm9
      have ht := tuN_in hm i.toNat (by omega)
      rw [← hu, ← hq] at ht
      have es : (i + 1).toNat = i.toNat + 1 := by omega
      have ih4 := ih9
      refine v_iload_n (pc := 4) C 3 rfl rfl dX7_doesPass_4 ?_
      refine v_iload_n (pc := 5) C 1 rfl rfl dX7_doesPass_5 ?_
      refine v_icmp_ge (pc := 6) C 22 ⟨by (first | assumption | omega), by (first | assumption | omega)⟩ ⟨by (first | assumption | omega), by (first | assumption | omega)⟩ (by decide) dX7_doesPass_6 (fun h6 => ?_) (fun h6 => ?_)
      · skip
        refine v_iload_n (pc := 22) C 2 rfl rfl dX7_doesPass_22 ?_
        exact v_iret (pc := 23) C hr hlk (⟨congrArg iI (by rw [hq, show i = n by omega]), by rw [hu, show i = n by omega]⟩) dX7_doesPass_23
      · skip
        refine v_iload_n (pc := 9) C 2 rfl rfl dX7_doesPass_9 ?_
        refine v_aload_n (pc := 10) C 0 rfl rfl dX7_doesPass_10 ?_
        refine v_calliV (pc := 11) C cw_RX7_87 rcv_14 (ct_X7_turn l L u (by exact ht.1) (by omega)) ⟨Nat.le_of_ble_eq_true rfl, Nat.le_of_ble_eq_true rfl⟩ rfl (Nat.le_of_ble_eq_true rfl) ⟨Nat.le_of_ble_eq_true rfl, Nat.le_of_ble_eq_true rfl⟩ rfl dX7_doesPass_11 (fun r9 u9 hP_1 => ?_)
        obtain ⟨hP_1, hP_1b⟩ := hP_1
        rw [hP_1, hP_1b]
        clear hP_1 hP_1b r9 u9
        refine v_iadd (pc := 14) C dX7_doesPass_14 ?_
        refine v_istore_n (pc := 15) C [(2, .int (iI (q + ((tuM u).2)))), (0, .ref (adr L 14 0 0)), (1, .int (iI n)), (3, .int (iI i))] rfl (by decide) rfl dX7_doesPass_15 ?_
        refine v_iinc (pc := 16) C 3 [(3, .int (iI (i + 1))), (2, .int (iI (q + ((tuM u).2)))), (0, .ref (adr L 14 0 0)), (1, .int (iI n))] rfl (by decide) rfl dX7_doesPass_16 ?_
        refine v_goto (pc := 19) C 4 (by decide) dX7_doesPass_19 ?_
        refine v_lsub [2, 3, 1, 0] rfl ?_
        exact ih4 ((tuM u).1) (q + ((tuM u).2)) (i + 1) (by omega) (by rw [es, tuN, ← hu]) (by rw [es, tuN, ← hu, ← hq]) (by omega)
  refine v_lsub [2, 3, 1, 0] rfl ?_
  exact lb4 _ g 0 0 (by omega) (by rfl) (by rfl) (Nat.lt_succ_self _)
set_option maxHeartbeats 4000000 in
set_option maxRecDepth 100000 in
theorem ct_X7_hasRoom (l : Launch) (L : Lay) (g : St) (d v : Int) (hm : wm (g 15 0 0) d) (hd : 0 ≤ d ∧ d ≤ 1) (hv : 0 ≤ v ∧ v ≤ 100) : Met l yX7_hasRoom (.code yX7_hasRoom cX7_hasRoom 4 (some .boolean) :: wsL_law) { frames := 1, cells := 0, slots := 0, locals := 22 } (va_Pc [.ref (adr L 14 0 0), .int (iI v)] (HS L g)) (va_Qi (fun (r9 : Int32) (u9 : St) => r9 = iI (if furM g ≤ v then 1 else 0) ∧ u9 = g) (fun u t => HS L u t) (Af L)) 0 0 (Af L) := by
  refine ct_mk (by decide +kernel) (Nat.le_of_ble_eq_true rfl) ?_
  intro pp ee ss mm bel mth cx C hr hlk
  show V pp l ee { frames := 1, cells := 0, slots := 0, locals := 22 } ss mm ([.ref (adr L 14 0 0), .int (iI v)]).toArray bel mth cx 4 L (HH L g) 0 0 _ 0 [(0, .ref (adr L 14 0 0)), (1, .int (iI v))] []
  obtain ⟨mS0, mS1, mS2, mB0, mB1, mB2, mCl, mN, mPl, mEc⟩ := id hm
  refine v_aload_n (pc := 0) C 0 rfl rfl dX7_hasRoom_0 ?_
  refine gt_14_1 (pc := 1) C u_4_4 dX7_hasRoom_1 ?_
  refine v_iconst (pc := 4) C dX7_hasRoom_4 ?_
  refine al_15 (pc := 5) C ⟨by (first | assumption | omega), by (first | assumption | omega)⟩ dX7_hasRoom_5 (g 15 0 0 4) (rfl) ?_
  refine v_iload_n (pc := 6) C 1 rfl rfl dX7_hasRoom_6 ?_
  refine v_icmp_gt (pc := 7) C 14 ⟨by (first | assumption | omega), by (first | assumption | omega)⟩ ⟨by (first | assumption | omega), by (first | assumption | omega)⟩ (by decide) dX7_hasRoom_7 (fun h7 => ?_) (fun h7 => ?_)
  · skip
    refine v_iconst (pc := 14) C dX7_hasRoom_14 ?_
    refine v_istore_n (pc := 15) C [(2, .int (iI 0)), (0, .ref (adr L 14 0 0)), (1, .int (iI v))] rfl (by decide) rfl dX7_hasRoom_15 ?_
    refine v_iconst (pc := 16) C dX7_hasRoom_16 ?_
    refine v_istore_n (pc := 17) C [(3, .int (iI 0)), (2, .int (iI 0)), (0, .ref (adr L 14 0 0)), (1, .int (iI v))] rfl (by decide) rfl dX7_hasRoom_17 ?_
    have lb18 : ∀ (n9 : Nat) (q : Int) (i : Int), (0 ≤ i ∧ i ≤ 4) → (q = 0 ∨ q = 1) → (q = 1 ↔ mxN (fun p => g 15 0 0 (10 + 6 * p + 0)) i.toNat (g 15 0 0 4) ≤ v) → (4 - i).toNat < n9 → V pp l ee { frames := 1, cells := 0, slots := 0, locals := 22 } ss mm ([.ref (adr L 14 0 0), .int (iI v)]).toArray bel mth cx 4 L (HH L g) 0 0 (MQ bel (va_Qi (fun (r9 : Int32) (u9 : St) => r9 = iI (if furM g ≤ v then 1 else 0) ∧ u9 = g) (fun u t => HS L u t) (Af L)) ([.ref (adr L 14 0 0), .int (iI v)]).toArray ss 0 0 (Af L)) 18 [(0, .ref (adr L 14 0 0)), (1, .int (iI v)), (2, .int (iI q)), (3, .int (iI i))] [] := by
      intro n9
      induction n9 with
      | zero => intro q i hi hq hf hm9; exact absurd hm9 (Nat.not_lt_zero _)
      | succ n9 ih9 =>
        intro q i hi hq hf hm9
        have hs := mxN_at (f := fun p => g 15 0 0 (10 + 6 * p + 0)) (b := g 15 0 0 4) (v := v) hi.1
        have ih18 := ih9
        refine v_iload_n (pc := 18) C 3 rfl rfl dX7_hasRoom_18 ?_
        refine v_iconst (pc := 19) C dX7_hasRoom_19 ?_
        refine v_icmp_ge (pc := 20) C 49 ⟨by (first | assumption | omega), by (first | assumption | omega)⟩ ⟨by (first | assumption | omega), by (first | assumption | omega)⟩ (by decide) dX7_hasRoom_20 (fun h20 => ?_) (fun h20 => ?_)
        · skip
          refine v_iconst (pc := 49) C dX7_hasRoom_49 ?_
          refine v_istore_n (pc := 50) C [(3, .int (iI 0)), (0, .ref (adr L 14 0 0)), (1, .int (iI v)), (2, .int (iI q))] rfl (by decide) rfl dX7_hasRoom_50 ?_
          have lb51 : ∀ (n9 : Nat) (q : Int) (i : Int), (0 ≤ i ∧ i ≤ g 15 0 0 9) → (q = 0 ∨ q = 1) → (q = 1 ↔ mxN (fun e => g 15 0 0 (34 + 5 * e + 1)) i.toNat (mxN (fun p => g 15 0 0 (10 + 6 * p + 0)) 4 (g 15 0 0 4)) ≤ v) → (g 15 0 0 9 - i).toNat < n9 → V pp l ee { frames := 1, cells := 0, slots := 0, locals := 22 } ss mm ([.ref (adr L 14 0 0), .int (iI v)]).toArray bel mth cx 4 L (HH L g) 0 0 (MQ bel (va_Qi (fun (r9 : Int32) (u9 : St) => r9 = iI (if furM g ≤ v then 1 else 0) ∧ u9 = g) (fun u t => HS L u t) (Af L)) ([.ref (adr L 14 0 0), .int (iI v)]).toArray ss 0 0 (Af L)) 51 [(0, .ref (adr L 14 0 0)), (1, .int (iI v)), (2, .int (iI q)), (3, .int (iI i))] [] := by
            intro n9
            induction n9 with
            | zero => intro q i hi hq hf hm9; exact absurd hm9 (Nat.not_lt_zero _)
            | succ n9 ih9 =>
              intro q i hi hq hf hm9
              have hs := mxN_at (f := fun e => g 15 0 0 (34 + 5 * e + 1)) (b := mxN (fun p => g 15 0 0 (10 + 6 * p + 0)) 4 (g 15 0 0 4)) (v := v) hi.1
              have ih51 := ih9
              refine v_iload_n (pc := 51) C 3 rfl rfl dX7_hasRoom_51 ?_
              refine v_aload_n (pc := 52) C 0 rfl rfl dX7_hasRoom_52 ?_
              refine gt_14_1 (pc := 53) C u_4_4 dX7_hasRoom_53 ?_
              refine v_bipush (pc := 56) C rfl dX7_hasRoom_56 ?_
              refine al_15 (pc := 58) C ⟨by (first | assumption | omega), by (first | assumption | omega)⟩ dX7_hasRoom_58 (g 15 0 0 9) (rfl) ?_
              refine v_icmp_ge (pc := 59) C 88 ⟨by (first | assumption | omega), by (first | assumption | omega)⟩ ⟨by (first | assumption | omega), by (first | assumption | omega)⟩ (by decide) dX7_hasRoom_59 (fun h59 => ?_) (fun h59 => ?_)
              · skip
                refine v_iload_n (pc := 88) C 2 rfl rfl dX7_hasRoom_88 ?_
                exact v_zret (pc := 89) C hr hlk (by first | assumption | omega) (⟨congrArg iI (by rw [show i = g 15 0 0 9 by omega] at hf; unfold furM; split <;> omega), rfl⟩) dX7_hasRoom_89
              · skip
                refine v_iload_n (pc := 62) C 2 rfl rfl dX7_hasRoom_62 ?_
                refine v_if_eq (pc := 63) C 80 ⟨by (first | assumption | omega), by (first | assumption | omega)⟩ (by decide) dX7_hasRoom_63 (fun h63 => ?_) (fun h63 => ?_)
                · skip
                  refine v_iconst (pc := 80) C dX7_hasRoom_80 ?_
                  refine v_istore_n (pc := 81) C [(2, .int (iI 0)), (0, .ref (adr L 14 0 0)), (1, .int (iI v)), (3, .int (iI i))] rfl (by decide) rfl dX7_hasRoom_81 ?_
                  refine v_iinc (pc := 82) C 3 [(3, .int (iI (i + 1))), (2, .int (iI 0)), (0, .ref (adr L 14 0 0)), (1, .int (iI v))] rfl (by decide) rfl dX7_hasRoom_82 ?_
                  refine v_goto (pc := 85) C 51 (by decide) dX7_hasRoom_85 ?_
                  refine v_lsub [2, 3, 1, 0] rfl ?_
                  exact ih51 0 (i + 1) (by omega) (by omega) (by omega) (by omega)
                · skip
                  have hee := mEc i (by omega) (by omega)
                  unfold okM at hee
                  refine v_aload_n (pc := 66) C 0 rfl rfl dX7_hasRoom_66 ?_
                  refine v_iload_n (pc := 67) C 3 rfl rfl dX7_hasRoom_67 ?_
                  refine v_iconst (pc := 68) C dX7_hasRoom_68 ?_
                  refine v_calliV (pc := 69) C cw_RX7_54 rcv_14 (ct_X7_ofEcho l L g i 1 (by first | assumption | omega) (by first | assumption | omega)) ⟨Nat.le_of_ble_eq_true rfl, Nat.le_of_ble_eq_true rfl⟩ rfl (Nat.le_of_ble_eq_true rfl) ⟨Nat.le_of_ble_eq_true rfl, Nat.le_of_ble_eq_true rfl⟩ rfl dX7_hasRoom_69 (fun r9 u9 hP_1 => ?_)
                  obtain ⟨hP_1, hP_1b⟩ := hP_1
                  rw [hP_1, hP_1b]
                  clear hP_1 hP_1b r9 u9
                  refine v_iload_n (pc := 72) C 1 rfl rfl dX7_hasRoom_72 ?_
                  refine v_icmp_gt (pc := 73) C 80 ⟨by (first | assumption | omega), by (first | assumption | omega)⟩ ⟨by (first | assumption | omega), by (first | assumption | omega)⟩ (by decide) dX7_hasRoom_73 (fun h73 => ?_) (fun h73 => ?_)
                  · skip
                    refine v_iconst (pc := 80) C dX7_hasRoom_80 ?_
                    refine v_istore_n (pc := 81) C [(2, .int (iI 0)), (0, .ref (adr L 14 0 0)), (1, .int (iI v)), (3, .int (iI i))] rfl (by decide) rfl dX7_hasRoom_81 ?_
                    refine v_iinc (pc := 82) C 3 [(3, .int (iI (i + 1))), (2, .int (iI 0)), (0, .ref (adr L 14 0 0)), (1, .int (iI v))] rfl (by decide) rfl dX7_hasRoom_82 ?_
                    refine v_goto (pc := 85) C 51 (by decide) dX7_hasRoom_85 ?_
                    refine v_lsub [2, 3, 1, 0] rfl ?_
                    exact ih51 0 (i + 1) (by omega) (by omega) (by omega) (by omega)
                  · skip
                    refine v_iconst (pc := 76) C dX7_hasRoom_76 ?_
                    refine v_goto (pc := 77) C 81 (by decide) dX7_hasRoom_77 ?_
                    refine v_istore_n (pc := 81) C [(2, .int (iI 1)), (0, .ref (adr L 14 0 0)), (1, .int (iI v)), (3, .int (iI i))] rfl (by decide) rfl dX7_hasRoom_81 ?_
                    refine v_iinc (pc := 82) C 3 [(3, .int (iI (i + 1))), (2, .int (iI 1)), (0, .ref (adr L 14 0 0)), (1, .int (iI v))] rfl (by decide) rfl dX7_hasRoom_82 ?_
                    refine v_goto (pc := 85) C 51 (by decide) dX7_hasRoom_85 ?_
                    refine v_lsub [2, 3, 1, 0] rfl ?_
                    exact ih51 1 (i + 1) (by omega) (by omega) (by omega) (by omega)
          refine v_lsub [1, 2, 3, 0] rfl ?_
          exact lb51 _ q 0 (by omega) (by omega) (by rw [show i = 4 by omega] at hf; exact hf) (Nat.lt_succ_self _)
        · skip
          refine v_iload_n (pc := 23) C 2 rfl rfl dX7_hasRoom_23 ?_
          refine v_if_eq (pc := 24) C 41 ⟨by (first | assumption | omega), by (first | assumption | omega)⟩ (by decide) dX7_hasRoom_24 (fun h24 => ?_) (fun h24 => ?_)
          · skip
            refine v_iconst (pc := 41) C dX7_hasRoom_41 ?_
            refine v_istore_n (pc := 42) C [(2, .int (iI 0)), (0, .ref (adr L 14 0 0)), (1, .int (iI v)), (3, .int (iI i))] rfl (by decide) rfl dX7_hasRoom_42 ?_
            refine v_iinc (pc := 43) C 3 [(3, .int (iI (i + 1))), (2, .int (iI 0)), (0, .ref (adr L 14 0 0)), (1, .int (iI v))] rfl (by decide) rfl dX7_hasRoom_43 ?_
            refine v_goto (pc := 46) C 18 (by decide) dX7_hasRoom_46 ?_
            refine v_lsub [2, 3, 1, 0] rfl ?_
            exact ih18 0 (i + 1) (by omega) (by omega) (by omega) (by omega)
          · skip
            have hpl := mPl i (by omega) (by omega)
            refine v_aload_n (pc := 27) C 0 rfl rfl dX7_hasRoom_27 ?_
            refine v_iload_n (pc := 28) C 3 rfl rfl dX7_hasRoom_28 ?_
            refine v_iconst (pc := 29) C dX7_hasRoom_29 ?_
            refine v_calliV (pc := 30) C cw_RX7_33 rcv_14 (ct_X7_ofPlayer l L g i 0 (by first | assumption | omega) (by first | assumption | omega)) ⟨Nat.le_of_ble_eq_true rfl, Nat.le_of_ble_eq_true rfl⟩ rfl (Nat.le_of_ble_eq_true rfl) ⟨Nat.le_of_ble_eq_true rfl, Nat.le_of_ble_eq_true rfl⟩ rfl dX7_hasRoom_30 (fun r9 u9 hP_2 => ?_)
            obtain ⟨hP_2, hP_2b⟩ := hP_2
            rw [hP_2, hP_2b]
            clear hP_2 hP_2b r9 u9
            refine v_iload_n (pc := 33) C 1 rfl rfl dX7_hasRoom_33 ?_
            refine v_icmp_gt (pc := 34) C 41 ⟨by (first | assumption | omega), by (first | assumption | omega)⟩ ⟨by (first | assumption | omega), by (first | assumption | omega)⟩ (by decide) dX7_hasRoom_34 (fun h34 => ?_) (fun h34 => ?_)
            · skip
              refine v_iconst (pc := 41) C dX7_hasRoom_41 ?_
              refine v_istore_n (pc := 42) C [(2, .int (iI 0)), (0, .ref (adr L 14 0 0)), (1, .int (iI v)), (3, .int (iI i))] rfl (by decide) rfl dX7_hasRoom_42 ?_
              refine v_iinc (pc := 43) C 3 [(3, .int (iI (i + 1))), (2, .int (iI 0)), (0, .ref (adr L 14 0 0)), (1, .int (iI v))] rfl (by decide) rfl dX7_hasRoom_43 ?_
              refine v_goto (pc := 46) C 18 (by decide) dX7_hasRoom_46 ?_
              refine v_lsub [2, 3, 1, 0] rfl ?_
              exact ih18 0 (i + 1) (by omega) (by omega) (by omega) (by omega)
            · skip
              refine v_iconst (pc := 37) C dX7_hasRoom_37 ?_
              refine v_goto (pc := 38) C 42 (by decide) dX7_hasRoom_38 ?_
              refine v_istore_n (pc := 42) C [(2, .int (iI 1)), (0, .ref (adr L 14 0 0)), (1, .int (iI v)), (3, .int (iI i))] rfl (by decide) rfl dX7_hasRoom_42 ?_
              refine v_iinc (pc := 43) C 3 [(3, .int (iI (i + 1))), (2, .int (iI 1)), (0, .ref (adr L 14 0 0)), (1, .int (iI v))] rfl (by decide) rfl dX7_hasRoom_43 ?_
              refine v_goto (pc := 46) C 18 (by decide) dX7_hasRoom_46 ?_
              refine v_lsub [2, 3, 1, 0] rfl ?_
              exact ih18 1 (i + 1) (by omega) (by omega) (by omega) (by omega)
    refine v_lsub [2, 3, 1, 0] rfl ?_
    exact lb18 _ 0 0 (by omega) (by omega) (by show _ ↔ g 15 0 0 4 ≤ v; omega) (Nat.lt_succ_self _)
  · skip
    refine v_iconst (pc := 10) C dX7_hasRoom_10 ?_
    refine v_goto (pc := 11) C 15 (by decide) dX7_hasRoom_11 ?_
    refine v_istore_n (pc := 15) C [(2, .int (iI 1)), (0, .ref (adr L 14 0 0)), (1, .int (iI v))] rfl (by decide) rfl dX7_hasRoom_15 ?_
    refine v_iconst (pc := 16) C dX7_hasRoom_16 ?_
    refine v_istore_n (pc := 17) C [(3, .int (iI 0)), (2, .int (iI 1)), (0, .ref (adr L 14 0 0)), (1, .int (iI v))] rfl (by decide) rfl dX7_hasRoom_17 ?_
    have lb18 : ∀ (n9 : Nat) (q : Int) (i : Int), (0 ≤ i ∧ i ≤ 4) → (q = 0 ∨ q = 1) → (q = 1 ↔ mxN (fun p => g 15 0 0 (10 + 6 * p + 0)) i.toNat (g 15 0 0 4) ≤ v) → (4 - i).toNat < n9 → V pp l ee { frames := 1, cells := 0, slots := 0, locals := 22 } ss mm ([.ref (adr L 14 0 0), .int (iI v)]).toArray bel mth cx 4 L (HH L g) 0 0 (MQ bel (va_Qi (fun (r9 : Int32) (u9 : St) => r9 = iI (if furM g ≤ v then 1 else 0) ∧ u9 = g) (fun u t => HS L u t) (Af L)) ([.ref (adr L 14 0 0), .int (iI v)]).toArray ss 0 0 (Af L)) 18 [(0, .ref (adr L 14 0 0)), (1, .int (iI v)), (2, .int (iI q)), (3, .int (iI i))] [] := by
      intro n9
      induction n9 with
      | zero => intro q i hi hq hf hm9; exact absurd hm9 (Nat.not_lt_zero _)
      | succ n9 ih9 =>
        intro q i hi hq hf hm9
        have hs := mxN_at (f := fun p => g 15 0 0 (10 + 6 * p + 0)) (b := g 15 0 0 4) (v := v) hi.1
        have ih18 := ih9
        refine v_iload_n (pc := 18) C 3 rfl rfl dX7_hasRoom_18 ?_
        refine v_iconst (pc := 19) C dX7_hasRoom_19 ?_
        refine v_icmp_ge (pc := 20) C 49 ⟨by (first | assumption | omega), by (first | assumption | omega)⟩ ⟨by (first | assumption | omega), by (first | assumption | omega)⟩ (by decide) dX7_hasRoom_20 (fun h20 => ?_) (fun h20 => ?_)
        · skip
          refine v_iconst (pc := 49) C dX7_hasRoom_49 ?_
          refine v_istore_n (pc := 50) C [(3, .int (iI 0)), (0, .ref (adr L 14 0 0)), (1, .int (iI v)), (2, .int (iI q))] rfl (by decide) rfl dX7_hasRoom_50 ?_
          have lb51 : ∀ (n9 : Nat) (q : Int) (i : Int), (0 ≤ i ∧ i ≤ g 15 0 0 9) → (q = 0 ∨ q = 1) → (q = 1 ↔ mxN (fun e => g 15 0 0 (34 + 5 * e + 1)) i.toNat (mxN (fun p => g 15 0 0 (10 + 6 * p + 0)) 4 (g 15 0 0 4)) ≤ v) → (g 15 0 0 9 - i).toNat < n9 → V pp l ee { frames := 1, cells := 0, slots := 0, locals := 22 } ss mm ([.ref (adr L 14 0 0), .int (iI v)]).toArray bel mth cx 4 L (HH L g) 0 0 (MQ bel (va_Qi (fun (r9 : Int32) (u9 : St) => r9 = iI (if furM g ≤ v then 1 else 0) ∧ u9 = g) (fun u t => HS L u t) (Af L)) ([.ref (adr L 14 0 0), .int (iI v)]).toArray ss 0 0 (Af L)) 51 [(0, .ref (adr L 14 0 0)), (1, .int (iI v)), (2, .int (iI q)), (3, .int (iI i))] [] := by
            intro n9
            induction n9 with
            | zero => intro q i hi hq hf hm9; exact absurd hm9 (Nat.not_lt_zero _)
            | succ n9 ih9 =>
              intro q i hi hq hf hm9
              have hs := mxN_at (f := fun e => g 15 0 0 (34 + 5 * e + 1)) (b := mxN (fun p => g 15 0 0 (10 + 6 * p + 0)) 4 (g 15 0 0 4)) (v := v) hi.1
              have ih51 := ih9
              refine v_iload_n (pc := 51) C 3 rfl rfl dX7_hasRoom_51 ?_
              refine v_aload_n (pc := 52) C 0 rfl rfl dX7_hasRoom_52 ?_
              refine gt_14_1 (pc := 53) C u_4_4 dX7_hasRoom_53 ?_
              refine v_bipush (pc := 56) C rfl dX7_hasRoom_56 ?_
              refine al_15 (pc := 58) C ⟨by (first | assumption | omega), by (first | assumption | omega)⟩ dX7_hasRoom_58 (g 15 0 0 9) (rfl) ?_
              refine v_icmp_ge (pc := 59) C 88 ⟨by (first | assumption | omega), by (first | assumption | omega)⟩ ⟨by (first | assumption | omega), by (first | assumption | omega)⟩ (by decide) dX7_hasRoom_59 (fun h59 => ?_) (fun h59 => ?_)
              · skip
                refine v_iload_n (pc := 88) C 2 rfl rfl dX7_hasRoom_88 ?_
                exact v_zret (pc := 89) C hr hlk (by first | assumption | omega) (⟨congrArg iI (by rw [show i = g 15 0 0 9 by omega] at hf; unfold furM; split <;> omega), rfl⟩) dX7_hasRoom_89
              · skip
                refine v_iload_n (pc := 62) C 2 rfl rfl dX7_hasRoom_62 ?_
                refine v_if_eq (pc := 63) C 80 ⟨by (first | assumption | omega), by (first | assumption | omega)⟩ (by decide) dX7_hasRoom_63 (fun h63 => ?_) (fun h63 => ?_)
                · skip
                  refine v_iconst (pc := 80) C dX7_hasRoom_80 ?_
                  refine v_istore_n (pc := 81) C [(2, .int (iI 0)), (0, .ref (adr L 14 0 0)), (1, .int (iI v)), (3, .int (iI i))] rfl (by decide) rfl dX7_hasRoom_81 ?_
                  refine v_iinc (pc := 82) C 3 [(3, .int (iI (i + 1))), (2, .int (iI 0)), (0, .ref (adr L 14 0 0)), (1, .int (iI v))] rfl (by decide) rfl dX7_hasRoom_82 ?_
                  refine v_goto (pc := 85) C 51 (by decide) dX7_hasRoom_85 ?_
                  refine v_lsub [2, 3, 1, 0] rfl ?_
                  exact ih51 0 (i + 1) (by omega) (by omega) (by omega) (by omega)
                · skip
                  have hee := mEc i (by omega) (by omega)
                  unfold okM at hee
                  refine v_aload_n (pc := 66) C 0 rfl rfl dX7_hasRoom_66 ?_
                  refine v_iload_n (pc := 67) C 3 rfl rfl dX7_hasRoom_67 ?_
                  refine v_iconst (pc := 68) C dX7_hasRoom_68 ?_
                  refine v_calliV (pc := 69) C cw_RX7_54 rcv_14 (ct_X7_ofEcho l L g i 1 (by first | assumption | omega) (by first | assumption | omega)) ⟨Nat.le_of_ble_eq_true rfl, Nat.le_of_ble_eq_true rfl⟩ rfl (Nat.le_of_ble_eq_true rfl) ⟨Nat.le_of_ble_eq_true rfl, Nat.le_of_ble_eq_true rfl⟩ rfl dX7_hasRoom_69 (fun r9 u9 hP_3 => ?_)
                  obtain ⟨hP_3, hP_3b⟩ := hP_3
                  rw [hP_3, hP_3b]
                  clear hP_3 hP_3b r9 u9
                  refine v_iload_n (pc := 72) C 1 rfl rfl dX7_hasRoom_72 ?_
                  refine v_icmp_gt (pc := 73) C 80 ⟨by (first | assumption | omega), by (first | assumption | omega)⟩ ⟨by (first | assumption | omega), by (first | assumption | omega)⟩ (by decide) dX7_hasRoom_73 (fun h73 => ?_) (fun h73 => ?_)
                  · skip
                    refine v_iconst (pc := 80) C dX7_hasRoom_80 ?_
                    refine v_istore_n (pc := 81) C [(2, .int (iI 0)), (0, .ref (adr L 14 0 0)), (1, .int (iI v)), (3, .int (iI i))] rfl (by decide) rfl dX7_hasRoom_81 ?_
                    refine v_iinc (pc := 82) C 3 [(3, .int (iI (i + 1))), (2, .int (iI 0)), (0, .ref (adr L 14 0 0)), (1, .int (iI v))] rfl (by decide) rfl dX7_hasRoom_82 ?_
                    refine v_goto (pc := 85) C 51 (by decide) dX7_hasRoom_85 ?_
                    refine v_lsub [2, 3, 1, 0] rfl ?_
                    exact ih51 0 (i + 1) (by omega) (by omega) (by omega) (by omega)
                  · skip
                    refine v_iconst (pc := 76) C dX7_hasRoom_76 ?_
                    refine v_goto (pc := 77) C 81 (by decide) dX7_hasRoom_77 ?_
                    refine v_istore_n (pc := 81) C [(2, .int (iI 1)), (0, .ref (adr L 14 0 0)), (1, .int (iI v)), (3, .int (iI i))] rfl (by decide) rfl dX7_hasRoom_81 ?_
                    refine v_iinc (pc := 82) C 3 [(3, .int (iI (i + 1))), (2, .int (iI 1)), (0, .ref (adr L 14 0 0)), (1, .int (iI v))] rfl (by decide) rfl dX7_hasRoom_82 ?_
                    refine v_goto (pc := 85) C 51 (by decide) dX7_hasRoom_85 ?_
                    refine v_lsub [2, 3, 1, 0] rfl ?_
                    exact ih51 1 (i + 1) (by omega) (by omega) (by omega) (by omega)
          refine v_lsub [1, 2, 3, 0] rfl ?_
          exact lb51 _ q 0 (by omega) (by omega) (by rw [show i = 4 by omega] at hf; exact hf) (Nat.lt_succ_self _)
        · skip
          refine v_iload_n (pc := 23) C 2 rfl rfl dX7_hasRoom_23 ?_
          refine v_if_eq (pc := 24) C 41 ⟨by (first | assumption | omega), by (first | assumption | omega)⟩ (by decide) dX7_hasRoom_24 (fun h24 => ?_) (fun h24 => ?_)
          · skip
            refine v_iconst (pc := 41) C dX7_hasRoom_41 ?_
            refine v_istore_n (pc := 42) C [(2, .int (iI 0)), (0, .ref (adr L 14 0 0)), (1, .int (iI v)), (3, .int (iI i))] rfl (by decide) rfl dX7_hasRoom_42 ?_
            refine v_iinc (pc := 43) C 3 [(3, .int (iI (i + 1))), (2, .int (iI 0)), (0, .ref (adr L 14 0 0)), (1, .int (iI v))] rfl (by decide) rfl dX7_hasRoom_43 ?_
            refine v_goto (pc := 46) C 18 (by decide) dX7_hasRoom_46 ?_
            refine v_lsub [2, 3, 1, 0] rfl ?_
            exact ih18 0 (i + 1) (by omega) (by omega) (by omega) (by omega)
          · skip
            have hpl := mPl i (by omega) (by omega)
            refine v_aload_n (pc := 27) C 0 rfl rfl dX7_hasRoom_27 ?_
            refine v_iload_n (pc := 28) C 3 rfl rfl dX7_hasRoom_28 ?_
            refine v_iconst (pc := 29) C dX7_hasRoom_29 ?_
            refine v_calliV (pc := 30) C cw_RX7_33 rcv_14 (ct_X7_ofPlayer l L g i 0 (by first | assumption | omega) (by first | assumption | omega)) ⟨Nat.le_of_ble_eq_true rfl, Nat.le_of_ble_eq_true rfl⟩ rfl (Nat.le_of_ble_eq_true rfl) ⟨Nat.le_of_ble_eq_true rfl, Nat.le_of_ble_eq_true rfl⟩ rfl dX7_hasRoom_30 (fun r9 u9 hP_4 => ?_)
            obtain ⟨hP_4, hP_4b⟩ := hP_4
            rw [hP_4, hP_4b]
            clear hP_4 hP_4b r9 u9
            refine v_iload_n (pc := 33) C 1 rfl rfl dX7_hasRoom_33 ?_
            refine v_icmp_gt (pc := 34) C 41 ⟨by (first | assumption | omega), by (first | assumption | omega)⟩ ⟨by (first | assumption | omega), by (first | assumption | omega)⟩ (by decide) dX7_hasRoom_34 (fun h34 => ?_) (fun h34 => ?_)
            · skip
              refine v_iconst (pc := 41) C dX7_hasRoom_41 ?_
              refine v_istore_n (pc := 42) C [(2, .int (iI 0)), (0, .ref (adr L 14 0 0)), (1, .int (iI v)), (3, .int (iI i))] rfl (by decide) rfl dX7_hasRoom_42 ?_
              refine v_iinc (pc := 43) C 3 [(3, .int (iI (i + 1))), (2, .int (iI 0)), (0, .ref (adr L 14 0 0)), (1, .int (iI v))] rfl (by decide) rfl dX7_hasRoom_43 ?_
              refine v_goto (pc := 46) C 18 (by decide) dX7_hasRoom_46 ?_
              refine v_lsub [2, 3, 1, 0] rfl ?_
              exact ih18 0 (i + 1) (by omega) (by omega) (by omega) (by omega)
            · skip
              refine v_iconst (pc := 37) C dX7_hasRoom_37 ?_
              refine v_goto (pc := 38) C 42 (by decide) dX7_hasRoom_38 ?_
              refine v_istore_n (pc := 42) C [(2, .int (iI 1)), (0, .ref (adr L 14 0 0)), (1, .int (iI v)), (3, .int (iI i))] rfl (by decide) rfl dX7_hasRoom_42 ?_
              refine v_iinc (pc := 43) C 3 [(3, .int (iI (i + 1))), (2, .int (iI 1)), (0, .ref (adr L 14 0 0)), (1, .int (iI v))] rfl (by decide) rfl dX7_hasRoom_43 ?_
              refine v_goto (pc := 46) C 18 (by decide) dX7_hasRoom_46 ?_
              refine v_lsub [2, 3, 1, 0] rfl ?_
              exact ih18 1 (i + 1) (by omega) (by omega) (by omega) (by omega)
    refine v_lsub [2, 3, 1, 0] rfl ?_
    exact lb18 _ 1 0 (by omega) (by omega) (by show _ ↔ g 15 0 0 4 ≤ v; omega) (Nat.lt_succ_self _)
set_option maxHeartbeats 4000000 in
set_option maxRecDepth 100000 in
theorem ct_X7_doesOrder (l : Launch) (L : Lay) (g : St) (hm : wm (g 15 0 0) 1) (hl1 : g 14 0 0 9 = 99 → (0 ≤ g 14 0 0 10 ∧ g 14 0 0 10 < 4) ∧ (0 ≤ g 14 0 0 11 ∧ g 14 0 0 11 ≤ 9)) (hl2 : g 14 0 0 9 = 109 → (0 ≤ g 14 0 0 10 ∧ g 14 0 0 10 < 4) ∧ (-9 ≤ g 14 0 0 11 ∧ g 14 0 0 11 ≤ 9)) (hl3 : g 14 0 0 9 ≠ 99 → g 14 0 0 9 ≠ 109 → 1 ≤ g 14 0 0 10 ∧ g 14 0 0 10 ≤ 99) (hl : 0 ≤ g 14 0 0 9 ∧ g 14 0 0 9 ≤ 126) (hn6 : ∀ p, 0 ≤ p → p < 4 → mUw g p + 2 ≤ 6 → g 15 0 0 9 + 2 ≤ 24) : Met l yX7_doesOrder (.code yX7_doesOrder cX7_doesOrder 2 (some .boolean) :: wsL_law) { frames := 4, cells := 0, slots := 0, locals := 95 } (va_Pc [.ref (adr L 14 0 0)] (HS L g)) (va_Qi (fun (r9 : Int32) (u9 : St) => r9 = iI (doR g) ∧ u9 = (doM g)) (fun u t => HS L u t) (Af L)) 0 0 (Af L) := by
  refine ct_mk (by decide +kernel) (Nat.le_of_ble_eq_true rfl) ?_
  intro pp ee ss mm bel mth cx C hr hlk
  show V pp l ee { frames := 4, cells := 0, slots := 0, locals := 95 } ss mm ([.ref (adr L 14 0 0)]).toArray bel mth cx 2 L (HH L g) 0 0 _ 0 [(0, .ref (adr L 14 0 0))] []
  obtain ⟨mS0, mS1, mS2, mB0, mB1, mB2, mCl, mN, mPl, mEc⟩ := id hm
  refine v_aload_n (pc := 0) C 0 rfl rfl dX7_doesOrder_0 ?_
  refine gt_14_9 (pc := 1) C u_19_13 dX7_doesOrder_1 (g 14 0 0 9) (rfl) ?_
  refine v_bipush (pc := 4) C rfl dX7_doesOrder_4 ?_
  refine v_icmp_ne (pc := 6) C 31 ⟨by (first | assumption | omega), by (first | assumption | omega)⟩ ⟨by (first | assumption | omega), by (first | assumption | omega)⟩ (by decide) dX7_doesOrder_6 (fun h6 => ?_) (fun h6 => ?_)
  · skip
    refine v_aload_n (pc := 31) C 0 rfl rfl dX7_doesOrder_31 ?_
    refine gt_14_9 (pc := 32) C u_19_13 dX7_doesOrder_32 (g 14 0 0 9) (rfl) ?_
    refine v_bipush (pc := 35) C rfl dX7_doesOrder_35 ?_
    refine v_icmp_ne (pc := 37) C 62 ⟨by (first | assumption | omega), by (first | assumption | omega)⟩ ⟨by (first | assumption | omega), by (first | assumption | omega)⟩ (by decide) dX7_doesOrder_37 (fun h37 => ?_) (fun h37 => ?_)
    · skip
      have hx := hl3 (by omega) (by omega)
      refine v_aload_n (pc := 62) C 0 rfl rfl dX7_doesOrder_62 ?_
      refine gt_14_1 (pc := 63) C u_4_4 dX7_doesOrder_63 ?_
      refine v_iconst (pc := 66) C dX7_doesOrder_66 ?_
      refine al_15 (pc := 67) C ⟨by (first | assumption | omega), by (first | assumption | omega)⟩ dX7_doesOrder_67 (g 15 0 0 3) (rfl) ?_
      refine v_aload_n (pc := 68) C 0 rfl rfl dX7_doesOrder_68 ?_
      refine gt_14_10 (pc := 69) C u_19_22 dX7_doesOrder_69 (g 14 0 0 10) (rfl) ?_
      refine v_iadd (pc := 72) C dX7_doesOrder_72 ?_
      refine v_ldc (pc := 73) (z := 99999) C (by decide +kernel) u_15_8 dX7_doesOrder_73 ?_
      refine v_icmp_gt (pc := 75) C 82 ⟨by (first | assumption | omega), by (first | assumption | omega)⟩ ⟨by (first | assumption | omega), by (first | assumption | omega)⟩ (by decide) dX7_doesOrder_75 (fun h75 => ?_) (fun h75 => ?_)
      · skip
        refine v_iconst (pc := 82) C dX7_doesOrder_82 ?_
        refine v_istore_n (pc := 83) C [(1, .int (iI 0)), (0, .ref (adr L 14 0 0))] rfl (by decide) rfl dX7_doesOrder_83 ?_
        refine v_iload_n (pc := 84) C 0 rfl rfl dX7_doesOrder_84 ?_
        refine v_if_eq (pc := 85) C 103 ⟨by (first | assumption | omega), by (first | assumption | omega)⟩ (by decide) dX7_doesOrder_85 (fun h85 => ?_) (fun h85 => ?_)
        · skip
          refine v_iconst (pc := 103) C dX7_doesOrder_103 ?_
          exact v_zret (pc := 104) C hr hlk (by first | assumption | omega) (⟨congrArg iI (by unfold doR; (repeat' first | rfl | omega | rw [if_pos (by first | assumption | omega)] | rw [if_neg (by first | assumption | omega)])), by unfold doM; (repeat' first | rfl | omega | rw [if_pos (by first | assumption | omega)] | rw [if_neg (by first | assumption | omega)])⟩) dX7_doesOrder_104
        · skip
          exfalso; omega
      · skip
        refine v_iconst (pc := 78) C dX7_doesOrder_78 ?_
        refine v_goto (pc := 79) C 83 (by decide) dX7_doesOrder_79 ?_
        refine v_istore_n (pc := 83) C [(1, .int (iI 1)), (0, .ref (adr L 14 0 0))] rfl (by decide) rfl dX7_doesOrder_83 ?_
        refine v_iload_n (pc := 84) C 0 rfl rfl dX7_doesOrder_84 ?_
        refine v_if_eq (pc := 85) C 103 ⟨by (first | assumption | omega), by (first | assumption | omega)⟩ (by decide) dX7_doesOrder_85 (fun h85 => ?_) (fun h85 => ?_)
        · skip
          exfalso; omega
        · skip
          have htn := tuN_in hm (g 14 0 0 10).toNat (by omega)
          refine v_aload_n (pc := 88) C 1 rfl rfl dX7_doesOrder_88 ?_
          refine v_aload_n (pc := 89) C 1 rfl rfl dX7_doesOrder_89 ?_
          refine gt_14_10 (pc := 90) C u_19_22 dX7_doesOrder_90 (g 14 0 0 10) (rfl) ?_
          refine v_calliV (pc := 93) C cw_RX7_105 rcv_14 (ct_X7_doesPass l L g (g 14 0 0 10) (by first | assumption | omega) (by first | assumption | omega) (by first | assumption | omega)) ⟨Nat.le_of_ble_eq_true rfl, Nat.le_of_ble_eq_true rfl⟩ rfl (Nat.le_of_ble_eq_true rfl) ⟨Nat.le_of_ble_eq_true rfl, Nat.le_of_ble_eq_true rfl⟩ rfl dX7_doesOrder_93 (fun r9 u9 hP_1 => ?_)
          obtain ⟨hP_1, hP_1b⟩ := hP_1
          rw [hP_1, hP_1b]
          clear hP_1 hP_1b r9 u9
          refine v_if_lt (pc := 96) C 103 ⟨by (first | assumption | omega), by (first | assumption | omega)⟩ (by decide) dX7_doesOrder_96 (fun h96 => ?_) (fun h96 => ?_)
          · skip
            refine v_iconst (pc := 103) C dX7_doesOrder_103 ?_
            exact v_zret (pc := 104) C hr hlk (by first | assumption | omega) (⟨congrArg iI (by unfold doR; (repeat' first | rfl | omega | rw [if_pos (by first | assumption | omega)] | rw [if_neg (by first | assumption | omega)])), by unfold doM; (repeat' first | rfl | omega | rw [if_pos (by first | assumption | omega)] | rw [if_neg (by first | assumption | omega)])⟩) dX7_doesOrder_104
          · skip
            refine v_iconst (pc := 99) C dX7_doesOrder_99 ?_
            refine v_goto (pc := 100) C 104 (by decide) dX7_doesOrder_100 ?_
            exact v_zret (pc := 104) C hr hlk (by first | assumption | omega) (⟨congrArg iI (by unfold doR; (repeat' first | rfl | omega | rw [if_pos (by first | assumption | omega)] | rw [if_neg (by first | assumption | omega)])), by unfold doM; (repeat' first | rfl | omega | rw [if_pos (by first | assumption | omega)] | rw [if_neg (by first | assumption | omega)])⟩) dX7_doesOrder_104
    · skip
      have hx := hl2 (by omega)
      have hpl := mPl _ hx.1.1 hx.1.2
      have hdr : -1 ≤ mvRM g (g 14 0 0 10) (g 14 0 0 11) ∧ mvRM g (g 14 0 0 10) (g 14 0 0 11) ≤ 100 := by (unfold mvRM mvOM; split <;> omega)
      refine v_aload_n (pc := 40) C 0 rfl rfl dX7_doesOrder_40 ?_
      refine v_aload_n (pc := 41) C 0 rfl rfl dX7_doesOrder_41 ?_
      refine gt_14_10 (pc := 42) C u_19_22 dX7_doesOrder_42 (g 14 0 0 10) (rfl) ?_
      refine v_aload_n (pc := 45) C 0 rfl rfl dX7_doesOrder_45 ?_
      refine gt_14_11 (pc := 46) C u_19_23 dX7_doesOrder_46 (g 14 0 0 11) (rfl) ?_
      refine v_calliV (pc := 49) C cw_RX7_98 rcv_14 (ct_X7_doesWalk l L g (g 14 0 0 10) (g 14 0 0 11) (by first | assumption | omega) (by exact hx.1) (by omega)) ⟨Nat.le_of_ble_eq_true rfl, Nat.le_of_ble_eq_true rfl⟩ rfl (Nat.le_of_ble_eq_true rfl) ⟨Nat.le_of_ble_eq_true rfl, Nat.le_of_ble_eq_true rfl⟩ rfl dX7_doesOrder_49 (fun r9 u9 hP_2 => ?_)
      obtain ⟨hP_2, hP_2b⟩ := hP_2
      rw [hP_2, hP_2b]
      clear hP_2 hP_2b r9 u9
      refine v_iconst (pc := 52) C dX7_doesOrder_52 ?_
      refine v_icmp_eq (pc := 53) C 60 ⟨by (first | assumption | omega), by (first | assumption | omega)⟩ ⟨by (first | assumption | omega), by (first | assumption | omega)⟩ (by decide) dX7_doesOrder_53 (fun h53 => ?_) (fun h53 => ?_)
      · skip
        refine v_iconst (pc := 60) C dX7_doesOrder_60 ?_
        exact v_zret (pc := 61) C hr hlk (by first | assumption | omega) (⟨congrArg iI (by unfold doR; (repeat' first | rfl | omega | rw [if_pos (by first | assumption | omega)] | rw [if_neg (by first | assumption | omega)])), by unfold doM; (repeat' first | rfl | omega | rw [if_pos (by first | assumption | omega)] | rw [if_neg (by first | assumption | omega)])⟩) dX7_doesOrder_61
      · skip
        refine v_iconst (pc := 56) C dX7_doesOrder_56 ?_
        refine v_goto (pc := 57) C 61 (by decide) dX7_doesOrder_57 ?_
        exact v_zret (pc := 61) C hr hlk (by first | assumption | omega) (⟨congrArg iI (by unfold doR; (repeat' first | rfl | omega | rw [if_pos (by first | assumption | omega)] | rw [if_neg (by first | assumption | omega)])), by unfold doM; (repeat' first | rfl | omega | rw [if_pos (by first | assumption | omega)] | rw [if_neg (by first | assumption | omega)])⟩) dX7_doesOrder_61
  · skip
    have hx := hl1 (by omega)
    have hdr := dcR_in (g := g) hm hx.1
    refine v_aload_n (pc := 9) C 0 rfl rfl dX7_doesOrder_9 ?_
    refine v_aload_n (pc := 10) C 0 rfl rfl dX7_doesOrder_10 ?_
    refine gt_14_10 (pc := 11) C u_19_22 dX7_doesOrder_11 (g 14 0 0 10) (rfl) ?_
    refine v_aload_n (pc := 14) C 0 rfl rfl dX7_doesOrder_14 ?_
    refine gt_14_11 (pc := 15) C u_19_23 dX7_doesOrder_15 (g 14 0 0 11) (rfl) ?_
    refine v_calliV (pc := 18) C cw_RX7_95 rcv_14 (ct_X7_doesCall l L g (g 14 0 0 10) (g 14 0 0 11) (by first | assumption | omega) (by exact hx.1) (by exact hx.2) (by exact hn6 _ hx.1.1 hx.1.2)) ⟨Nat.le_of_ble_eq_true rfl, Nat.le_of_ble_eq_true rfl⟩ rfl (Nat.le_of_ble_eq_true rfl) ⟨Nat.le_of_ble_eq_true rfl, Nat.le_of_ble_eq_true rfl⟩ rfl dX7_doesOrder_18 (fun r9 u9 hP_3 => ?_)
    obtain ⟨hP_3, hP_3b⟩ := hP_3
    rw [hP_3, hP_3b]
    clear hP_3 hP_3b r9 u9
    refine v_iconst (pc := 21) C dX7_doesOrder_21 ?_
    refine v_icmp_eq (pc := 22) C 29 ⟨by (first | assumption | omega), by (first | assumption | omega)⟩ ⟨by (first | assumption | omega), by (first | assumption | omega)⟩ (by decide) dX7_doesOrder_22 (fun h22 => ?_) (fun h22 => ?_)
    · skip
      refine v_iconst (pc := 29) C dX7_doesOrder_29 ?_
      exact v_zret (pc := 30) C hr hlk (by first | assumption | omega) (⟨congrArg iI (by unfold doR; (repeat' first | rfl | omega | rw [if_pos (by first | assumption | omega)] | rw [if_neg (by first | assumption | omega)])), by unfold doM; (repeat' first | rfl | omega | rw [if_pos (by first | assumption | omega)] | rw [if_neg (by first | assumption | omega)])⟩) dX7_doesOrder_30
    · skip
      refine v_iconst (pc := 25) C dX7_doesOrder_25 ?_
      refine v_goto (pc := 26) C 30 (by decide) dX7_doesOrder_26 ?_
      exact v_zret (pc := 30) C hr hlk (by first | assumption | omega) (⟨congrArg iI (by unfold doR; (repeat' first | rfl | omega | rw [if_pos (by first | assumption | omega)] | rw [if_neg (by first | assumption | omega)])), by unfold doM; (repeat' first | rfl | omega | rw [if_pos (by first | assumption | omega)] | rw [if_neg (by first | assumption | omega)])⟩) dX7_doesOrder_30
set_option maxHeartbeats 4000000 in
set_option maxRecDepth 100000 in
theorem ct_X7_call (l : Launch) (L : Lay) (g : St) (p w : Int) (hm : wm (g 15 0 0) 1) (h3 : 0 ≤ g 14 0 0 3 ∧ g 14 0 0 3 ≤ 6) (hn6 : ∀ p, 0 ≤ p → p < 4 → mUw g p + 2 ≤ 6 → g 15 0 0 9 + 2 ≤ 24) (hrp : rg p) (hrw : rg w) : Met l yX7_call (.code yX7_call cX7_call 3 (some .int) :: wsL_law) { frames := 3, cells := 0, slots := 0, locals := 73 } (va_Pc [.ref (adr L 14 0 0), .int (iI p), .int (iI w)] (HS L g)) (va_Qi (fun (r9 : Int32) (u : St) => ∃ z : Int, r9 = iI z ∧ ((¬ (0 ≤ p ∧ p ≤ 3) ∧ u = er g 1 ∧ z = 0) ∨ ((0 ≤ p ∧ p ≤ 3) ∧ ¬ (0 ≤ w ∧ w ≤ 9) ∧ u = er g 2 ∧ z = 0) ∨ ((0 ≤ p ∧ p ≤ 3) ∧ (0 ≤ w ∧ w ≤ 9) ∧ u = dcM (svM (t0 g)) p w ∧ z = dcR (svM (t0 g)) p))) (fun u t => HS L u t) (Af L)) 0 0 (Af L) := by
  refine ct_mk (by decide +kernel) (Nat.le_of_ble_eq_true rfl) ?_
  intro pp ee ss mm bel mth cx C hr hlk
  show V pp l ee { frames := 3, cells := 0, slots := 0, locals := 73 } ss mm ([.ref (adr L 14 0 0), .int (iI p), .int (iI w)]).toArray bel mth cx 3 L (HH L g) 0 0 _ 0 [(0, .ref (adr L 14 0 0)), (1, .int (iI p)), (2, .int (iI w))] []
  have hm0 := wm_t0 hm
  have e15 := sv_15 g
  have hms : wm (svM (t0 g) 15 0 0) 1 := by (rw [e15]; exact hm)
  have h30 : 0 ≤ t0 g 14 0 0 3 ∧ t0 g 14 0 0 3 ≤ 6 := by (rw [t0_3]; exact h3)
  have u15 := fun p => mUw_15 e15 p
  obtain ⟨mS0, mS1, mS2, mB0, mB1, mB2, mCl, mN, mPl, mEc⟩ := id hm
  refine v_aload_n (pc := 0) C 0 rfl rfl dX7_call_0 ?_
  refine v_iconst (pc := 1) C dX7_call_1 ?_
  refine pt_14_0 (pc := 2) C u_8_10 dX7_call_2 ?_
  refine v_st (g2 := t0 g) C (rfl) ?_
  refine v_iload_n (pc := 5) C 1 rfl rfl dX7_call_5 ?_
  refine v_calliS (pc := 6) C cw_RX7_91 (ct_X7_isPlayer l L (t0 g) p (by first | assumption | exact hm0 | exact hms | omega | (unfold rg; omega))) ⟨Nat.le_of_ble_eq_true rfl, Nat.le_of_ble_eq_true rfl⟩ rfl (Nat.le_of_ble_eq_true rfl) ⟨Nat.le_of_ble_eq_true rfl, Nat.le_of_ble_eq_true rfl⟩ rfl dX7_call_6 (fun r9 u9 hP_1 => ?_)
  obtain ⟨hP_1, hP_1b⟩ := hP_1
  rw [hP_1, hP_1b]
  clear hP_1 hP_1b r9 u9
  refine v_if_ne (pc := 9) C 18 z1_rg (by decide) dX7_call_9 (fun h9 => ?_) (fun h9 => ?_)
  · skip
    have h9c := z1_net h9
    refine v_iload_n (pc := 18) C 2 rfl rfl dX7_call_18 ?_
    refine v_iconst (pc := 19) C dX7_call_19 ?_
    refine v_bipush (pc := 20) C rfl dX7_call_20 ?_
    refine v_calliS (pc := 22) C cw_RX7_29 (ct_X7_within l L (t0 g) w 0 9 (by first | assumption | exact hm0 | exact hms | omega | (unfold rg; omega)) (by first | assumption | exact hm0 | exact hms | omega | (unfold rg; omega)) (by first | assumption | exact hm0 | exact hms | omega | (unfold rg; omega))) ⟨Nat.le_of_ble_eq_true rfl, Nat.le_of_ble_eq_true rfl⟩ rfl (Nat.le_of_ble_eq_true rfl) ⟨Nat.le_of_ble_eq_true rfl, Nat.le_of_ble_eq_true rfl⟩ rfl dX7_call_22 (fun r9 u9 hP_2 => ?_)
    obtain ⟨hP_2, hP_2b⟩ := hP_2
    rw [hP_2, hP_2b]
    clear hP_2 hP_2b r9 u9
    refine v_if_ne (pc := 25) C 34 z1_rg (by decide) dX7_call_25 (fun h25 => ?_) (fun h25 => ?_)
    · skip
      have h25c := z1_net h25
      refine v_aload_n (pc := 34) C 0 rfl rfl dX7_call_34 ?_
      refine v_callvV (pc := 35) C cw_RX7_44 rcv_14 (ct_X7_save l L (t0 g) (by first | assumption | exact hm0 | exact hms | omega | (unfold rg; omega))) ⟨Nat.le_of_ble_eq_true rfl, Nat.le_of_ble_eq_true rfl⟩ rfl (Nat.le_of_ble_eq_true rfl) ⟨Nat.le_of_ble_eq_true rfl, Nat.le_of_ble_eq_true rfl⟩ rfl dX7_call_35 (fun u9 hP_3 => ?_)
      rw [hP_3]
      clear hP_3 u9
      refine v_aload_n (pc := 38) C 0 rfl rfl dX7_call_38 ?_
      refine v_iload_n (pc := 39) C 1 rfl rfl dX7_call_39 ?_
      refine v_iload_n (pc := 40) C 2 rfl rfl dX7_call_40 ?_
      refine v_calliV (pc := 41) C cw_RX7_95 rcv_14 (ct_X7_doesCall l L (svM (t0 g)) p w (by first | assumption | exact hm0 | exact hms | omega | (unfold rg; omega)) (by first | assumption | exact hm0 | exact hms | omega | (unfold rg; omega)) (by first | assumption | exact hm0 | exact hms | omega | (unfold rg; omega)) (by rw [u15, e15]; exact hn6 p (by omega) (by omega))) ⟨Nat.le_of_ble_eq_true rfl, Nat.le_of_ble_eq_true rfl⟩ rfl (Nat.le_of_ble_eq_true rfl) ⟨Nat.le_of_ble_eq_true rfl, Nat.le_of_ble_eq_true rfl⟩ rfl dX7_call_41 (fun r9 u9 hP_4 => ?_)
      obtain ⟨hP_4, hP_4b⟩ := hP_4
      rw [hP_4, hP_4b]
      clear hP_4 hP_4b r9 u9
      exact v_iret (pc := 44) C hr hlk (by first | exact ⟨_, rfl, Or.inl ⟨by assumption, rfl, rfl⟩⟩ | exact ⟨_, rfl, Or.inr (Or.inl ⟨by assumption, by assumption, rfl, rfl⟩)⟩ | exact ⟨_, rfl, Or.inr (Or.inr ⟨by assumption, by assumption, rfl, rfl⟩)⟩ | exact ⟨_, rfl, Or.inr ⟨by assumption, rfl, rfl⟩⟩) dX7_call_44
    · skip
      have h25c := z1_nef h25
      refine v_aload_n (pc := 28) C 0 rfl rfl dX7_call_28 ?_
      refine v_iconst (pc := 29) C dX7_call_29 ?_
      refine v_calliV (pc := 30) C cw_RX7_40 rcv_14 (ct_X7_fails l L (t0 g) 2 ) ⟨Nat.le_of_ble_eq_true rfl, Nat.le_of_ble_eq_true rfl⟩ rfl (Nat.le_of_ble_eq_true rfl) ⟨Nat.le_of_ble_eq_true rfl, Nat.le_of_ble_eq_true rfl⟩ rfl dX7_call_30 (fun r9 u9 hP_5 => ?_)
      obtain ⟨hP_5, hP_5b⟩ := hP_5
      rw [hP_5, hP_5b]
      clear hP_5 hP_5b r9 u9
      exact v_iret (pc := 33) C hr hlk (by first | exact ⟨_, rfl, Or.inl ⟨by assumption, rfl, rfl⟩⟩ | exact ⟨_, rfl, Or.inr (Or.inl ⟨by assumption, by assumption, rfl, rfl⟩)⟩ | exact ⟨_, rfl, Or.inr (Or.inr ⟨by assumption, by assumption, rfl, rfl⟩)⟩ | exact ⟨_, rfl, Or.inr ⟨by assumption, rfl, rfl⟩⟩) dX7_call_33
  · skip
    have h9c := z1_nef h9
    refine v_aload_n (pc := 12) C 0 rfl rfl dX7_call_12 ?_
    refine v_iconst (pc := 13) C dX7_call_13 ?_
    refine v_calliV (pc := 14) C cw_RX7_40 rcv_14 (ct_X7_fails l L (t0 g) 1 ) ⟨Nat.le_of_ble_eq_true rfl, Nat.le_of_ble_eq_true rfl⟩ rfl (Nat.le_of_ble_eq_true rfl) ⟨Nat.le_of_ble_eq_true rfl, Nat.le_of_ble_eq_true rfl⟩ rfl dX7_call_14 (fun r9 u9 hP_6 => ?_)
    obtain ⟨hP_6, hP_6b⟩ := hP_6
    rw [hP_6, hP_6b]
    clear hP_6 hP_6b r9 u9
    exact v_iret (pc := 17) C hr hlk (by first | exact ⟨_, rfl, Or.inl ⟨by assumption, rfl, rfl⟩⟩ | exact ⟨_, rfl, Or.inr (Or.inl ⟨by assumption, by assumption, rfl, rfl⟩)⟩ | exact ⟨_, rfl, Or.inr (Or.inr ⟨by assumption, by assumption, rfl, rfl⟩)⟩ | exact ⟨_, rfl, Or.inr ⟨by assumption, rfl, rfl⟩⟩) dX7_call_17
set_option maxHeartbeats 4000000 in
set_option maxRecDepth 100000 in
theorem ct_X7_walk (l : Launch) (L : Lay) (g : St) (p b : Int) (hm : wm (g 15 0 0) 1) (h3 : 0 ≤ g 14 0 0 3 ∧ g 14 0 0 3 ≤ 6) (hrp : rg p) (hrb : rg b) : Met l yX7_walk (.code yX7_walk cX7_walk 3 (some .int) :: wsL_law) { frames := 2, cells := 0, slots := 0, locals := 45 } (va_Pc [.ref (adr L 14 0 0), .int (iI p), .int (iI b)] (HS L g)) (va_Qi (fun (r9 : Int32) (u : St) => ∃ z : Int, r9 = iI z ∧ ((¬ (0 ≤ p ∧ p ≤ 3) ∧ u = er g 1 ∧ z = 0) ∨ ((0 ≤ p ∧ p ≤ 3) ∧ ¬ (-9 ≤ b ∧ b ≤ 9) ∧ u = er g 2 ∧ z = 0) ∨ ((0 ≤ p ∧ p ≤ 3) ∧ (-9 ≤ b ∧ b ≤ 9) ∧ u = mvGM (svM (t0 g)) p b ∧ z = mvRM (svM (t0 g)) p b))) (fun u t => HS L u t) (Af L)) 0 0 (Af L) := by
  refine ct_mk (by decide +kernel) (Nat.le_of_ble_eq_true rfl) ?_
  intro pp ee ss mm bel mth cx C hr hlk
  show V pp l ee { frames := 2, cells := 0, slots := 0, locals := 45 } ss mm ([.ref (adr L 14 0 0), .int (iI p), .int (iI b)]).toArray bel mth cx 3 L (HH L g) 0 0 _ 0 [(0, .ref (adr L 14 0 0)), (1, .int (iI p)), (2, .int (iI b))] []
  have hm0 := wm_t0 hm
  have e15 := sv_15 g
  have hms : wm (svM (t0 g) 15 0 0) 1 := by (rw [e15]; exact hm)
  have h30 : 0 ≤ t0 g 14 0 0 3 ∧ t0 g 14 0 0 3 ≤ 6 := by (rw [t0_3]; exact h3)
  have u15 := fun p => mUw_15 e15 p
  obtain ⟨mS0, mS1, mS2, mB0, mB1, mB2, mCl, mN, mPl, mEc⟩ := id hm
  refine v_aload_n (pc := 0) C 0 rfl rfl dX7_walk_0 ?_
  refine v_iconst (pc := 1) C dX7_walk_1 ?_
  refine pt_14_0 (pc := 2) C u_8_10 dX7_walk_2 ?_
  refine v_st (g2 := t0 g) C (rfl) ?_
  refine v_iload_n (pc := 5) C 1 rfl rfl dX7_walk_5 ?_
  refine v_calliS (pc := 6) C cw_RX7_91 (ct_X7_isPlayer l L (t0 g) p (by first | assumption | exact hm0 | exact hms | omega | (unfold rg; omega))) ⟨Nat.le_of_ble_eq_true rfl, Nat.le_of_ble_eq_true rfl⟩ rfl (Nat.le_of_ble_eq_true rfl) ⟨Nat.le_of_ble_eq_true rfl, Nat.le_of_ble_eq_true rfl⟩ rfl dX7_walk_6 (fun r9 u9 hP_1 => ?_)
  obtain ⟨hP_1, hP_1b⟩ := hP_1
  rw [hP_1, hP_1b]
  clear hP_1 hP_1b r9 u9
  refine v_if_ne (pc := 9) C 18 z1_rg (by decide) dX7_walk_9 (fun h9 => ?_) (fun h9 => ?_)
  · skip
    have h9c := z1_net h9
    refine v_iload_n (pc := 18) C 2 rfl rfl dX7_walk_18 ?_
    refine v_bipush (pc := 19) C rfl dX7_walk_19 ?_
    refine v_bipush (pc := 21) C rfl dX7_walk_21 ?_
    refine v_calliS (pc := 23) C cw_RX7_29 (ct_X7_within l L (t0 g) b (-9) 9 (by first | assumption | exact hm0 | exact hms | omega | (unfold rg; omega)) (by first | assumption | exact hm0 | exact hms | omega | (unfold rg; omega)) (by first | assumption | exact hm0 | exact hms | omega | (unfold rg; omega))) ⟨Nat.le_of_ble_eq_true rfl, Nat.le_of_ble_eq_true rfl⟩ rfl (Nat.le_of_ble_eq_true rfl) ⟨Nat.le_of_ble_eq_true rfl, Nat.le_of_ble_eq_true rfl⟩ rfl dX7_walk_23 (fun r9 u9 hP_2 => ?_)
    obtain ⟨hP_2, hP_2b⟩ := hP_2
    rw [hP_2, hP_2b]
    clear hP_2 hP_2b r9 u9
    refine v_if_ne (pc := 26) C 35 z1_rg (by decide) dX7_walk_26 (fun h26 => ?_) (fun h26 => ?_)
    · skip
      have h26c := z1_net h26
      refine v_aload_n (pc := 35) C 0 rfl rfl dX7_walk_35 ?_
      refine v_callvV (pc := 36) C cw_RX7_44 rcv_14 (ct_X7_save l L (t0 g) (by first | assumption | exact hm0 | exact hms | omega | (unfold rg; omega))) ⟨Nat.le_of_ble_eq_true rfl, Nat.le_of_ble_eq_true rfl⟩ rfl (Nat.le_of_ble_eq_true rfl) ⟨Nat.le_of_ble_eq_true rfl, Nat.le_of_ble_eq_true rfl⟩ rfl dX7_walk_36 (fun u9 hP_3 => ?_)
      rw [hP_3]
      clear hP_3 u9
      refine v_aload_n (pc := 39) C 0 rfl rfl dX7_walk_39 ?_
      refine v_iload_n (pc := 40) C 1 rfl rfl dX7_walk_40 ?_
      refine v_iload_n (pc := 41) C 2 rfl rfl dX7_walk_41 ?_
      refine v_calliV (pc := 42) C cw_RX7_98 rcv_14 (ct_X7_doesWalk l L (svM (t0 g)) p b (by first | assumption | exact hm0 | exact hms | omega | (unfold rg; omega)) (by first | assumption | exact hm0 | exact hms | omega | (unfold rg; omega)) (by first | assumption | exact hm0 | exact hms | omega | (unfold rg; omega))) ⟨Nat.le_of_ble_eq_true rfl, Nat.le_of_ble_eq_true rfl⟩ rfl (Nat.le_of_ble_eq_true rfl) ⟨Nat.le_of_ble_eq_true rfl, Nat.le_of_ble_eq_true rfl⟩ rfl dX7_walk_42 (fun r9 u9 hP_4 => ?_)
      obtain ⟨hP_4, hP_4b⟩ := hP_4
      rw [hP_4, hP_4b]
      clear hP_4 hP_4b r9 u9
      exact v_iret (pc := 45) C hr hlk (by first | exact ⟨_, rfl, Or.inl ⟨by assumption, rfl, rfl⟩⟩ | exact ⟨_, rfl, Or.inr (Or.inl ⟨by assumption, by assumption, rfl, rfl⟩)⟩ | exact ⟨_, rfl, Or.inr (Or.inr ⟨by assumption, by assumption, rfl, rfl⟩)⟩ | exact ⟨_, rfl, Or.inr ⟨by assumption, rfl, rfl⟩⟩) dX7_walk_45
    · skip
      have h26c := z1_nef h26
      refine v_aload_n (pc := 29) C 0 rfl rfl dX7_walk_29 ?_
      refine v_iconst (pc := 30) C dX7_walk_30 ?_
      refine v_calliV (pc := 31) C cw_RX7_40 rcv_14 (ct_X7_fails l L (t0 g) 2 ) ⟨Nat.le_of_ble_eq_true rfl, Nat.le_of_ble_eq_true rfl⟩ rfl (Nat.le_of_ble_eq_true rfl) ⟨Nat.le_of_ble_eq_true rfl, Nat.le_of_ble_eq_true rfl⟩ rfl dX7_walk_31 (fun r9 u9 hP_5 => ?_)
      obtain ⟨hP_5, hP_5b⟩ := hP_5
      rw [hP_5, hP_5b]
      clear hP_5 hP_5b r9 u9
      exact v_iret (pc := 34) C hr hlk (by first | exact ⟨_, rfl, Or.inl ⟨by assumption, rfl, rfl⟩⟩ | exact ⟨_, rfl, Or.inr (Or.inl ⟨by assumption, by assumption, rfl, rfl⟩)⟩ | exact ⟨_, rfl, Or.inr (Or.inr ⟨by assumption, by assumption, rfl, rfl⟩)⟩ | exact ⟨_, rfl, Or.inr ⟨by assumption, rfl, rfl⟩⟩) dX7_walk_34
  · skip
    have h9c := z1_nef h9
    refine v_aload_n (pc := 12) C 0 rfl rfl dX7_walk_12 ?_
    refine v_iconst (pc := 13) C dX7_walk_13 ?_
    refine v_calliV (pc := 14) C cw_RX7_40 rcv_14 (ct_X7_fails l L (t0 g) 1 ) ⟨Nat.le_of_ble_eq_true rfl, Nat.le_of_ble_eq_true rfl⟩ rfl (Nat.le_of_ble_eq_true rfl) ⟨Nat.le_of_ble_eq_true rfl, Nat.le_of_ble_eq_true rfl⟩ rfl dX7_walk_14 (fun r9 u9 hP_6 => ?_)
    obtain ⟨hP_6, hP_6b⟩ := hP_6
    rw [hP_6, hP_6b]
    clear hP_6 hP_6b r9 u9
    exact v_iret (pc := 17) C hr hlk (by first | exact ⟨_, rfl, Or.inl ⟨by assumption, rfl, rfl⟩⟩ | exact ⟨_, rfl, Or.inr (Or.inl ⟨by assumption, by assumption, rfl, rfl⟩)⟩ | exact ⟨_, rfl, Or.inr (Or.inr ⟨by assumption, by assumption, rfl, rfl⟩)⟩ | exact ⟨_, rfl, Or.inr ⟨by assumption, rfl, rfl⟩⟩) dX7_walk_17
set_option maxHeartbeats 4000000 in
set_option maxRecDepth 100000 in
theorem ct_X7_throwBall (l : Launch) (L : Lay) (g : St) (a b q : Int) (hm : wm (g 15 0 0) 1) (h3 : 0 ≤ g 14 0 0 3 ∧ g 14 0 0 3 ≤ 6) (hq : q = 0 ∨ q = 1) (hra : rg a) (hrb : rg b) : Met l yX7_throwBall (.code yX7_throwBall cX7_throwBall 5 (some .int) :: wsL_law) { frames := 1, cells := 0, slots := 0, locals := 22 } (va_Pc [.ref (adr L 14 0 0), .int (iI a), .int (iI b), .int (iI q)] (HS L g)) (va_Qi (fun (r9 : Int32) (u : St) => ∃ z : Int, r9 = iI z ∧ ((¬ ((0 ≤ a ∧ a ≤ g 15 0 0 0) ∧ (1 ≤ b ∧ b ≤ 9)) ∧ u = er g 1 ∧ z = 0) ∨ (((0 ≤ a ∧ a ≤ g 15 0 0 0) ∧ (1 ≤ b ∧ b ≤ 9)) ∧ u = up (up (up (svM (t0 g)) 15 0 0 4 a) 15 0 0 5 b) 15 0 0 6 q ∧ z = g 15 0 0 4))) (fun u t => HS L u t) (Af L)) 0 0 (Af L) := by
  refine ct_mk (by decide +kernel) (Nat.le_of_ble_eq_true rfl) ?_
  intro pp ee ss mm bel mth cx C hr hlk
  show V pp l ee { frames := 1, cells := 0, slots := 0, locals := 22 } ss mm ([.ref (adr L 14 0 0), .int (iI a), .int (iI b), .int (iI q)]).toArray bel mth cx 5 L (HH L g) 0 0 _ 0 [(0, .ref (adr L 14 0 0)), (1, .int (iI a)), (2, .int (iI b)), (3, .int (iI q))] []
  have hm0 := wm_t0 hm
  have e15 := sv_15 g
  have hms : wm (svM (t0 g) 15 0 0) 1 := by (rw [e15]; exact hm)
  have h30 : 0 ≤ t0 g 14 0 0 3 ∧ t0 g 14 0 0 3 ≤ 6 := by (rw [t0_3]; exact h3)
  have u15 := fun p => mUw_15 e15 p
  obtain ⟨mS0, mS1, mS2, mB0, mB1, mB2, mCl, mN, mPl, mEc⟩ := id hm
  refine v_aload_n (pc := 0) C 0 rfl rfl dX7_throwBall_0 ?_
  refine v_iconst (pc := 1) C dX7_throwBall_1 ?_
  refine pt_14_0 (pc := 2) C u_8_10 dX7_throwBall_2 ?_
  refine v_st (g2 := t0 g) C (rfl) ?_
  refine v_iload_n (pc := 5) C 1 rfl rfl dX7_throwBall_5 ?_
  refine v_iconst (pc := 6) C dX7_throwBall_6 ?_
  refine v_aload_n (pc := 7) C 0 rfl rfl dX7_throwBall_7 ?_
  refine gt_14_1 (pc := 8) C u_4_4 dX7_throwBall_8 ?_
  refine v_iconst (pc := 11) C dX7_throwBall_11 ?_
  refine al_15 (pc := 12) C ⟨by (first | assumption | exact hm0 | exact hms | omega | (unfold rg; omega)), by (first | assumption | exact hm0 | exact hms | omega | (unfold rg; omega))⟩ dX7_throwBall_12 (g 15 0 0 0) (by rw [t0_f (by decide)]) ?_
  refine v_calliS (pc := 13) C cw_RX7_29 (ct_X7_within l L (t0 g) a 0 (g 15 0 0 0) (by first | assumption | exact hm0 | exact hms | omega | (unfold rg; omega)) (by first | assumption | exact hm0 | exact hms | omega | (unfold rg; omega)) (by first | assumption | exact hm0 | exact hms | omega | (unfold rg; omega))) ⟨Nat.le_of_ble_eq_true rfl, Nat.le_of_ble_eq_true rfl⟩ rfl (Nat.le_of_ble_eq_true rfl) ⟨Nat.le_of_ble_eq_true rfl, Nat.le_of_ble_eq_true rfl⟩ rfl dX7_throwBall_13 (fun r9 u9 hP_1 => ?_)
  obtain ⟨hP_1, hP_1b⟩ := hP_1
  rw [hP_1, hP_1b]
  clear hP_1 hP_1b r9 u9
  refine v_if_eq (pc := 16) C 29 z1_rg (by decide) dX7_throwBall_16 (fun h16 => ?_) (fun h16 => ?_)
  · skip
    have h16c := z1_eqt h16
    refine v_aload_n (pc := 29) C 0 rfl rfl dX7_throwBall_29 ?_
    refine v_iconst (pc := 30) C dX7_throwBall_30 ?_
    refine v_calliV (pc := 31) C cw_RX7_40 rcv_14 (ct_X7_fails l L (t0 g) 1 ) ⟨Nat.le_of_ble_eq_true rfl, Nat.le_of_ble_eq_true rfl⟩ rfl (Nat.le_of_ble_eq_true rfl) ⟨Nat.le_of_ble_eq_true rfl, Nat.le_of_ble_eq_true rfl⟩ rfl dX7_throwBall_31 (fun r9 u9 hP_2 => ?_)
    obtain ⟨hP_2, hP_2b⟩ := hP_2
    rw [hP_2, hP_2b]
    clear hP_2 hP_2b r9 u9
    exact v_iret (pc := 34) C hr hlk (by first | exact ⟨_, rfl, Or.inl ⟨fun hx => absurd hx.1 h16c, rfl, rfl⟩⟩ | exact ⟨_, rfl, Or.inl ⟨fun hx => absurd hx.2 h26c, rfl, rfl⟩⟩ | exact ⟨_, rfl, Or.inr ⟨⟨h16c, h26c⟩, rfl, rfl⟩⟩) dX7_throwBall_34
  · skip
    have h16c := z1_eqf h16
    refine v_iload_n (pc := 19) C 2 rfl rfl dX7_throwBall_19 ?_
    refine v_iconst (pc := 20) C dX7_throwBall_20 ?_
    refine v_bipush (pc := 21) C rfl dX7_throwBall_21 ?_
    refine v_calliS (pc := 23) C cw_RX7_29 (ct_X7_within l L (t0 g) b 1 9 (by first | assumption | exact hm0 | exact hms | omega | (unfold rg; omega)) (by first | assumption | exact hm0 | exact hms | omega | (unfold rg; omega)) (by first | assumption | exact hm0 | exact hms | omega | (unfold rg; omega))) ⟨Nat.le_of_ble_eq_true rfl, Nat.le_of_ble_eq_true rfl⟩ rfl (Nat.le_of_ble_eq_true rfl) ⟨Nat.le_of_ble_eq_true rfl, Nat.le_of_ble_eq_true rfl⟩ rfl dX7_throwBall_23 (fun r9 u9 hP_3 => ?_)
    obtain ⟨hP_3, hP_3b⟩ := hP_3
    rw [hP_3, hP_3b]
    clear hP_3 hP_3b r9 u9
    refine v_if_ne (pc := 26) C 35 z1_rg (by decide) dX7_throwBall_26 (fun h26 => ?_) (fun h26 => ?_)
    · skip
      have h26c := z1_net h26
      refine v_aload_n (pc := 35) C 0 rfl rfl dX7_throwBall_35 ?_
      refine v_callvV (pc := 36) C cw_RX7_44 rcv_14 (ct_X7_save l L (t0 g) (by first | assumption | exact hm0 | exact hms | omega | (unfold rg; omega))) ⟨Nat.le_of_ble_eq_true rfl, Nat.le_of_ble_eq_true rfl⟩ rfl (Nat.le_of_ble_eq_true rfl) ⟨Nat.le_of_ble_eq_true rfl, Nat.le_of_ble_eq_true rfl⟩ rfl dX7_throwBall_36 (fun u9 hP_4 => ?_)
      rw [hP_4]
      clear hP_4 u9
      refine v_aload_n (pc := 39) C 0 rfl rfl dX7_throwBall_39 ?_
      refine gt_14_1 (pc := 40) C u_4_4 dX7_throwBall_40 ?_
      refine v_iconst (pc := 43) C dX7_throwBall_43 ?_
      refine al_15 (pc := 44) C ⟨by (first | assumption | exact hm0 | exact hms | omega | (unfold rg; omega)), by (first | assumption | exact hm0 | exact hms | omega | (unfold rg; omega))⟩ dX7_throwBall_44 (g 15 0 0 4) (by rw [e15]) ?_
      refine v_istore (pc := 45) C [(4, .int (iI (g 15 0 0 4))), (0, .ref (adr L 14 0 0)), (1, .int (iI a)), (2, .int (iI b)), (3, .int (iI q))] (by decide) rfl dX7_throwBall_45 ?_
      refine v_aload_n (pc := 47) C 1 rfl rfl dX7_throwBall_47 ?_
      refine gt_14_1 (pc := 48) C u_4_4 dX7_throwBall_48 ?_
      refine v_iconst (pc := 51) C dX7_throwBall_51 ?_
      refine v_iload_n (pc := 52) C 2 rfl rfl dX7_throwBall_52 ?_
      refine as_15 (pc := 53) C ⟨by (first | assumption | exact hm0 | exact hms | omega | (unfold rg; omega)), by (first | assumption | exact hm0 | exact hms | omega | (unfold rg; omega))⟩ dX7_throwBall_53 ?_
      refine v_aload_n (pc := 54) C 1 rfl rfl dX7_throwBall_54 ?_
      refine gt_14_1 (pc := 55) C u_4_4 dX7_throwBall_55 ?_
      refine v_iconst (pc := 58) C dX7_throwBall_58 ?_
      refine v_iload_n (pc := 59) C 3 rfl rfl dX7_throwBall_59 ?_
      refine as_15 (pc := 60) C ⟨by (first | assumption | exact hm0 | exact hms | omega | (unfold rg; omega)), by (first | assumption | exact hm0 | exact hms | omega | (unfold rg; omega))⟩ dX7_throwBall_60 ?_
      refine v_aload_n (pc := 61) C 1 rfl rfl dX7_throwBall_61 ?_
      refine gt_14_1 (pc := 62) C u_4_4 dX7_throwBall_62 ?_
      refine v_bipush (pc := 65) C rfl dX7_throwBall_65 ?_
      refine v_iload_n (pc := 67) C 4 rfl rfl dX7_throwBall_67 ?_
      refine v_if_eq (pc := 68) C 75 ⟨by (first | assumption | exact hm0 | exact hms | omega | (unfold rg; omega)), by (first | assumption | exact hm0 | exact hms | omega | (unfold rg; omega))⟩ (by decide) dX7_throwBall_68 (fun h68 => ?_) (fun h68 => ?_)
      · skip
        refine v_iconst (pc := 75) C dX7_throwBall_75 ?_
        refine v_topi (b := q) C (by omega) ?_
        refine as_15 (pc := 76) C ⟨by (first | assumption | exact hm0 | exact hms | omega | (unfold rg; omega)), by (first | assumption | exact hm0 | exact hms | omega | (unfold rg; omega))⟩ dX7_throwBall_76 ?_
        refine v_iload (pc := 77) C 0 rfl dX7_throwBall_77 ?_
        exact v_iret (pc := 79) C hr hlk (by first | exact ⟨_, rfl, Or.inl ⟨fun hx => absurd hx.1 h16c, rfl, rfl⟩⟩ | exact ⟨_, rfl, Or.inl ⟨fun hx => absurd hx.2 h26c, rfl, rfl⟩⟩ | exact ⟨_, rfl, Or.inr ⟨⟨h16c, h26c⟩, rfl, rfl⟩⟩) dX7_throwBall_79
      · skip
        refine v_iconst (pc := 71) C dX7_throwBall_71 ?_
        refine v_goto (pc := 72) C 76 (by decide) dX7_throwBall_72 ?_
        refine v_topi (b := q) C (by omega) ?_
        refine as_15 (pc := 76) C ⟨by (first | assumption | exact hm0 | exact hms | omega | (unfold rg; omega)), by (first | assumption | exact hm0 | exact hms | omega | (unfold rg; omega))⟩ dX7_throwBall_76 ?_
        refine v_iload (pc := 77) C 0 rfl dX7_throwBall_77 ?_
        exact v_iret (pc := 79) C hr hlk (by first | exact ⟨_, rfl, Or.inl ⟨fun hx => absurd hx.1 h16c, rfl, rfl⟩⟩ | exact ⟨_, rfl, Or.inl ⟨fun hx => absurd hx.2 h26c, rfl, rfl⟩⟩ | exact ⟨_, rfl, Or.inr ⟨⟨h16c, h26c⟩, rfl, rfl⟩⟩) dX7_throwBall_79
    · skip
      have h26c := z1_nef h26
      refine v_aload_n (pc := 29) C 0 rfl rfl dX7_throwBall_29 ?_
      refine v_iconst (pc := 30) C dX7_throwBall_30 ?_
      refine v_calliV (pc := 31) C cw_RX7_40 rcv_14 (ct_X7_fails l L (t0 g) 1 ) ⟨Nat.le_of_ble_eq_true rfl, Nat.le_of_ble_eq_true rfl⟩ rfl (Nat.le_of_ble_eq_true rfl) ⟨Nat.le_of_ble_eq_true rfl, Nat.le_of_ble_eq_true rfl⟩ rfl dX7_throwBall_31 (fun r9 u9 hP_5 => ?_)
      obtain ⟨hP_5, hP_5b⟩ := hP_5
      rw [hP_5, hP_5b]
      clear hP_5 hP_5b r9 u9
      exact v_iret (pc := 34) C hr hlk (by first | exact ⟨_, rfl, Or.inl ⟨fun hx => absurd hx.1 h16c, rfl, rfl⟩⟩ | exact ⟨_, rfl, Or.inl ⟨fun hx => absurd hx.2 h26c, rfl, rfl⟩⟩ | exact ⟨_, rfl, Or.inr ⟨⟨h16c, h26c⟩, rfl, rfl⟩⟩) dX7_throwBall_34
set_option maxHeartbeats 4000000 in
set_option maxRecDepth 100000 in
theorem ct_X7_set (l : Launch) (L : Lay) (g : St) (a v : Int) (hm : wm (g 15 0 0) 1) (h3 : 0 ≤ g 14 0 0 3 ∧ g 14 0 0 3 ≤ 6) (hra : rg a) (hrv : rg v) : Met l yX7_set (.code yX7_set cX7_set 6 (some .int) :: wsL_law) { frames := 2, cells := 0, slots := 0, locals := 45 } (va_Pc [.ref (adr L 14 0 0), .int (iI a), .int (iI v)] (HS L g)) (va_Qi (fun (r9 : Int32) (u : St) => ∃ z : Int, r9 = iI z ∧ ((¬ (0 ≤ a ∧ a ≤ 2) ∧ u = er g 1 ∧ z = 0) ∨ ((0 ≤ a ∧ a ≤ 2) ∧ ¬ (lsV a ≤ v ∧ v ≤ msV a) ∧ u = er g 2 ∧ z = 0) ∨ ((0 ≤ a ∧ a ≤ 2) ∧ (lsV a ≤ v ∧ v ≤ msV a) ∧ (a = 0 ∧ ¬ furM (t0 g) ≤ v) ∧ u = er g 3 ∧ z = 0) ∨ ((0 ≤ a ∧ a ≤ 2) ∧ (lsV a ≤ v ∧ v ≤ msV a) ∧ ¬ (a = 0 ∧ ¬ furM (t0 g) ≤ v) ∧ u = up (svM (t0 g)) 15 0 0 a v ∧ z = g 15 0 0 a))) (fun u t => HS L u t) (Af L)) 0 0 (Af L) := by
  refine ct_mk (by decide +kernel) (Nat.le_of_ble_eq_true rfl) ?_
  intro pp ee ss mm bel mth cx C hr hlk
  show V pp l ee { frames := 2, cells := 0, slots := 0, locals := 45 } ss mm ([.ref (adr L 14 0 0), .int (iI a), .int (iI v)]).toArray bel mth cx 6 L (HH L g) 0 0 _ 0 [(0, .ref (adr L 14 0 0)), (1, .int (iI a)), (2, .int (iI v))] []
  have hm0 := wm_t0 hm
  have e15 := sv_15 g
  have hms : wm (svM (t0 g) 15 0 0) 1 := by (rw [e15]; exact hm)
  have h30 : 0 ≤ t0 g 14 0 0 3 ∧ t0 g 14 0 0 3 ≤ 6 := by (rw [t0_3]; exact h3)
  have u15 := fun p => mUw_15 e15 p
  obtain ⟨mS0, mS1, mS2, mB0, mB1, mB2, mCl, mN, mPl, mEc⟩ := id hm
  refine v_aload_n (pc := 0) C 0 rfl rfl dX7_set_0 ?_
  refine v_iconst (pc := 1) C dX7_set_1 ?_
  refine pt_14_0 (pc := 2) C u_8_10 dX7_set_2 ?_
  refine v_st (g2 := t0 g) C (rfl) ?_
  refine v_iload_n (pc := 5) C 1 rfl rfl dX7_set_5 ?_
  refine v_iconst (pc := 6) C dX7_set_6 ?_
  refine v_iconst (pc := 7) C dX7_set_7 ?_
  refine v_calliS (pc := 8) C cw_RX7_29 (ct_X7_within l L (t0 g) a 0 2 (by first | assumption | exact hm0 | exact hms | omega | (unfold rg; omega)) (by first | assumption | exact hm0 | exact hms | omega | (unfold rg; omega)) (by first | assumption | exact hm0 | exact hms | omega | (unfold rg; omega))) ⟨Nat.le_of_ble_eq_true rfl, Nat.le_of_ble_eq_true rfl⟩ rfl (Nat.le_of_ble_eq_true rfl) ⟨Nat.le_of_ble_eq_true rfl, Nat.le_of_ble_eq_true rfl⟩ rfl dX7_set_8 (fun r9 u9 hP_1 => ?_)
  obtain ⟨hP_1, hP_1b⟩ := hP_1
  rw [hP_1, hP_1b]
  clear hP_1 hP_1b r9 u9
  refine v_if_ne (pc := 11) C 20 z1_rg (by decide) dX7_set_11 (fun h11 => ?_) (fun h11 => ?_)
  · skip
    have h11c := z1_net h11
    refine v_iload_n (pc := 20) C 1 rfl rfl dX7_set_20 ?_
    refine v_if_ne (pc := 21) C 29 ⟨by (first | assumption | exact hm0 | exact hms | omega | (unfold rg; omega)), by (first | assumption | exact hm0 | exact hms | omega | (unfold rg; omega))⟩ (by decide) dX7_set_21 (fun h21 => ?_) (fun h21 => ?_)
    · skip
      refine v_iload_n (pc := 29) C 1 rfl rfl dX7_set_29 ?_
      refine v_iconst (pc := 30) C dX7_set_30 ?_
      refine v_icmp_ne (pc := 31) C 38 ⟨by (first | assumption | exact hm0 | exact hms | omega | (unfold rg; omega)), by (first | assumption | exact hm0 | exact hms | omega | (unfold rg; omega))⟩ ⟨by (first | assumption | exact hm0 | exact hms | omega | (unfold rg; omega)), by (first | assumption | exact hm0 | exact hms | omega | (unfold rg; omega))⟩ (by decide) dX7_set_31 (fun h31 => ?_) (fun h31 => ?_)
      · skip
        refine v_iconst (pc := 38) C dX7_set_38 ?_
        refine v_topi (b := lsV a) C (by unfold lsV; (repeat' split) <;> omega) ?_
        refine v_istore_n (pc := 39) C [(3, .int (iI (lsV a))), (0, .ref (adr L 14 0 0)), (1, .int (iI a)), (2, .int (iI v))] rfl (by decide) rfl dX7_set_39 ?_
        refine v_iload_n (pc := 40) C 2 rfl rfl dX7_set_40 ?_
        refine v_if_ne (pc := 41) C 49 ⟨by (first | assumption | exact hm0 | exact hms | omega | (unfold rg; omega)), by (first | assumption | exact hm0 | exact hms | omega | (unfold rg; omega))⟩ (by decide) dX7_set_41 (fun h41 => ?_) (fun h41 => ?_)
        · skip
          refine v_iload_n (pc := 49) C 2 rfl rfl dX7_set_49 ?_
          refine v_iconst (pc := 50) C dX7_set_50 ?_
          refine v_icmp_ne (pc := 51) C 59 ⟨by (first | assumption | exact hm0 | exact hms | omega | (unfold rg; omega)), by (first | assumption | exact hm0 | exact hms | omega | (unfold rg; omega))⟩ ⟨by (first | assumption | exact hm0 | exact hms | omega | (unfold rg; omega)), by (first | assumption | exact hm0 | exact hms | omega | (unfold rg; omega))⟩ (by decide) dX7_set_51 (fun h51 => ?_) (fun h51 => ?_)
          · skip
            refine v_iconst (pc := 59) C dX7_set_59 ?_
            refine v_topi (b := msV a) C (by unfold msV; (repeat' split) <;> omega) ?_
            refine v_istore (pc := 60) C [(4, .int (iI (msV a))), (3, .int (iI (lsV a))), (0, .ref (adr L 14 0 0)), (1, .int (iI a)), (2, .int (iI v))] (by decide) rfl dX7_set_60 ?_
            have hl1 : 0 ≤ lsV a ∧ lsV a ≤ 8 := by (unfold lsV; (repeat' split) <;> omega)
            have hl2 : 5 ≤ msV a ∧ msV a ≤ 40 := by (unfold msV; (repeat' split) <;> omega)
            refine v_iload_n (pc := 62) C 4 rfl rfl dX7_set_62 ?_
            refine v_iload_n (pc := 63) C 1 rfl rfl dX7_set_63 ?_
            refine v_iload (pc := 64) C 0 rfl dX7_set_64 ?_
            refine v_calliS (pc := 66) C cw_RX7_29 (ct_X7_within l L (t0 g) v (lsV a) (msV a) (by first | assumption | exact hm0 | exact hms | omega | (unfold rg; omega)) (by first | assumption | exact hm0 | exact hms | omega | (unfold rg; omega)) (by first | assumption | exact hm0 | exact hms | omega | (unfold rg; omega))) ⟨Nat.le_of_ble_eq_true rfl, Nat.le_of_ble_eq_true rfl⟩ rfl (Nat.le_of_ble_eq_true rfl) ⟨Nat.le_of_ble_eq_true rfl, Nat.le_of_ble_eq_true rfl⟩ rfl dX7_set_66 (fun r9 u9 hP_2 => ?_)
            obtain ⟨hP_2, hP_2b⟩ := hP_2
            rw [hP_2, hP_2b]
            clear hP_2 hP_2b r9 u9
            refine v_if_ne (pc := 69) C 78 z1_rg (by decide) dX7_set_69 (fun h69 => ?_) (fun h69 => ?_)
            · skip
              have h69c := z1_net h69
              refine v_iload_n (pc := 78) C 3 rfl rfl dX7_set_78 ?_
              refine v_if_ne (pc := 79) C 96 ⟨by (first | assumption | exact hm0 | exact hms | omega | (unfold rg; omega)), by (first | assumption | exact hm0 | exact hms | omega | (unfold rg; omega))⟩ (by decide) dX7_set_79 (fun h79 => ?_) (fun h79 => ?_)
              · skip
                refine v_aload_n (pc := 96) C 2 rfl rfl dX7_set_96 ?_
                refine v_callvV (pc := 97) C cw_RX7_44 rcv_14 (ct_X7_save l L (t0 g) (by first | assumption | exact hm0 | exact hms | omega | (unfold rg; omega))) ⟨Nat.le_of_ble_eq_true rfl, Nat.le_of_ble_eq_true rfl⟩ rfl (Nat.le_of_ble_eq_true rfl) ⟨Nat.le_of_ble_eq_true rfl, Nat.le_of_ble_eq_true rfl⟩ rfl dX7_set_97 (fun u9 hP_3 => ?_)
                rw [hP_3]
                clear hP_3 u9
                refine v_aload_n (pc := 100) C 2 rfl rfl dX7_set_100 ?_
                refine gt_14_1 (pc := 101) C u_4_4 dX7_set_101 ?_
                refine v_iload_n (pc := 104) C 3 rfl rfl dX7_set_104 ?_
                refine al_15 (pc := 105) C ⟨by (first | assumption | exact hm0 | exact hms | omega | (unfold rg; omega)), by (first | assumption | exact hm0 | exact hms | omega | (unfold rg; omega))⟩ dX7_set_105 (g 15 0 0 a) (by rw [e15]) ?_
                refine v_istore (pc := 106) C [(5, .int (iI (g 15 0 0 a))), (4, .int (iI (msV a))), (3, .int (iI (lsV a))), (0, .ref (adr L 14 0 0)), (1, .int (iI a)), (2, .int (iI v))] (by decide) rfl dX7_set_106 ?_
                refine v_aload_n (pc := 108) C 3 rfl rfl dX7_set_108 ?_
                refine gt_14_1 (pc := 109) C u_4_4 dX7_set_109 ?_
                refine v_iload_n (pc := 112) C 4 rfl rfl dX7_set_112 ?_
                refine v_iload_n (pc := 113) C 5 rfl rfl dX7_set_113 ?_
                refine as_15 (pc := 114) C ⟨by (first | assumption | exact hm0 | exact hms | omega | (unfold rg; omega)), by (first | assumption | exact hm0 | exact hms | omega | (unfold rg; omega))⟩ dX7_set_114 ?_
                refine v_iload (pc := 115) C 0 rfl dX7_set_115 ?_
                exact v_iret (pc := 117) C hr hlk (by first | exact ⟨_, rfl, Or.inl ⟨by assumption, rfl, rfl⟩⟩ | exact ⟨_, rfl, Or.inr (Or.inl ⟨by assumption, by assumption, rfl, rfl⟩)⟩ | exact ⟨_, rfl, Or.inr (Or.inr (Or.inl ⟨by assumption, by assumption, ⟨by omega, h87c⟩, rfl, rfl⟩))⟩ | exact ⟨_, rfl, Or.inr (Or.inr (Or.inr ⟨by assumption, by assumption, fun hx => absurd hx.1 (by assumption), rfl, rfl⟩))⟩ | exact ⟨_, rfl, Or.inr (Or.inr (Or.inr ⟨by assumption, by assumption, fun hx => absurd h87c hx.2, rfl, rfl⟩))⟩) dX7_set_117
              · skip
                exfalso; omega
            · skip
              have h69c := z1_nef h69
              refine v_aload_n (pc := 72) C 2 rfl rfl dX7_set_72 ?_
              refine v_iconst (pc := 73) C dX7_set_73 ?_
              refine v_calliV (pc := 74) C cw_RX7_40 rcv_14 (ct_X7_fails l L (t0 g) 2 ) ⟨Nat.le_of_ble_eq_true rfl, Nat.le_of_ble_eq_true rfl⟩ rfl (Nat.le_of_ble_eq_true rfl) ⟨Nat.le_of_ble_eq_true rfl, Nat.le_of_ble_eq_true rfl⟩ rfl dX7_set_74 (fun r9 u9 hP_4 => ?_)
              obtain ⟨hP_4, hP_4b⟩ := hP_4
              rw [hP_4, hP_4b]
              clear hP_4 hP_4b r9 u9
              exact v_iret (pc := 77) C hr hlk (by first | exact ⟨_, rfl, Or.inl ⟨by assumption, rfl, rfl⟩⟩ | exact ⟨_, rfl, Or.inr (Or.inl ⟨by assumption, by assumption, rfl, rfl⟩)⟩ | exact ⟨_, rfl, Or.inr (Or.inr (Or.inl ⟨by assumption, by assumption, ⟨by omega, h87c⟩, rfl, rfl⟩))⟩ | exact ⟨_, rfl, Or.inr (Or.inr (Or.inr ⟨by assumption, by assumption, fun hx => absurd hx.1 (by assumption), rfl, rfl⟩))⟩ | exact ⟨_, rfl, Or.inr (Or.inr (Or.inr ⟨by assumption, by assumption, fun hx => absurd h87c hx.2, rfl, rfl⟩))⟩) dX7_set_77
          · skip
            exfalso; omega
        · skip
          exfalso; omega
      · skip
        refine v_iconst (pc := 34) C dX7_set_34 ?_
        refine v_goto (pc := 35) C 39 (by decide) dX7_set_35 ?_
        refine v_topi (b := lsV a) C (by unfold lsV; (repeat' split) <;> omega) ?_
        refine v_istore_n (pc := 39) C [(3, .int (iI (lsV a))), (0, .ref (adr L 14 0 0)), (1, .int (iI a)), (2, .int (iI v))] rfl (by decide) rfl dX7_set_39 ?_
        refine v_iload_n (pc := 40) C 2 rfl rfl dX7_set_40 ?_
        refine v_if_ne (pc := 41) C 49 ⟨by (first | assumption | exact hm0 | exact hms | omega | (unfold rg; omega)), by (first | assumption | exact hm0 | exact hms | omega | (unfold rg; omega))⟩ (by decide) dX7_set_41 (fun h41 => ?_) (fun h41 => ?_)
        · skip
          refine v_iload_n (pc := 49) C 2 rfl rfl dX7_set_49 ?_
          refine v_iconst (pc := 50) C dX7_set_50 ?_
          refine v_icmp_ne (pc := 51) C 59 ⟨by (first | assumption | exact hm0 | exact hms | omega | (unfold rg; omega)), by (first | assumption | exact hm0 | exact hms | omega | (unfold rg; omega))⟩ ⟨by (first | assumption | exact hm0 | exact hms | omega | (unfold rg; omega)), by (first | assumption | exact hm0 | exact hms | omega | (unfold rg; omega))⟩ (by decide) dX7_set_51 (fun h51 => ?_) (fun h51 => ?_)
          · skip
            exfalso; omega
          · skip
            refine v_bipush (pc := 54) C rfl dX7_set_54 ?_
            refine v_goto (pc := 56) C 60 (by decide) dX7_set_56 ?_
            refine v_topi (b := msV a) C (by unfold msV; (repeat' split) <;> omega) ?_
            refine v_istore (pc := 60) C [(4, .int (iI (msV a))), (3, .int (iI (lsV a))), (0, .ref (adr L 14 0 0)), (1, .int (iI a)), (2, .int (iI v))] (by decide) rfl dX7_set_60 ?_
            have hl1 : 0 ≤ lsV a ∧ lsV a ≤ 8 := by (unfold lsV; (repeat' split) <;> omega)
            have hl2 : 5 ≤ msV a ∧ msV a ≤ 40 := by (unfold msV; (repeat' split) <;> omega)
            refine v_iload_n (pc := 62) C 4 rfl rfl dX7_set_62 ?_
            refine v_iload_n (pc := 63) C 1 rfl rfl dX7_set_63 ?_
            refine v_iload (pc := 64) C 0 rfl dX7_set_64 ?_
            refine v_calliS (pc := 66) C cw_RX7_29 (ct_X7_within l L (t0 g) v (lsV a) (msV a) (by first | assumption | exact hm0 | exact hms | omega | (unfold rg; omega)) (by first | assumption | exact hm0 | exact hms | omega | (unfold rg; omega)) (by first | assumption | exact hm0 | exact hms | omega | (unfold rg; omega))) ⟨Nat.le_of_ble_eq_true rfl, Nat.le_of_ble_eq_true rfl⟩ rfl (Nat.le_of_ble_eq_true rfl) ⟨Nat.le_of_ble_eq_true rfl, Nat.le_of_ble_eq_true rfl⟩ rfl dX7_set_66 (fun r9 u9 hP_5 => ?_)
            obtain ⟨hP_5, hP_5b⟩ := hP_5
            rw [hP_5, hP_5b]
            clear hP_5 hP_5b r9 u9
            refine v_if_ne (pc := 69) C 78 z1_rg (by decide) dX7_set_69 (fun h69 => ?_) (fun h69 => ?_)
            · skip
              have h69c := z1_net h69
              refine v_iload_n (pc := 78) C 3 rfl rfl dX7_set_78 ?_
              refine v_if_ne (pc := 79) C 96 ⟨by (first | assumption | exact hm0 | exact hms | omega | (unfold rg; omega)), by (first | assumption | exact hm0 | exact hms | omega | (unfold rg; omega))⟩ (by decide) dX7_set_79 (fun h79 => ?_) (fun h79 => ?_)
              · skip
                refine v_aload_n (pc := 96) C 2 rfl rfl dX7_set_96 ?_
                refine v_callvV (pc := 97) C cw_RX7_44 rcv_14 (ct_X7_save l L (t0 g) (by first | assumption | exact hm0 | exact hms | omega | (unfold rg; omega))) ⟨Nat.le_of_ble_eq_true rfl, Nat.le_of_ble_eq_true rfl⟩ rfl (Nat.le_of_ble_eq_true rfl) ⟨Nat.le_of_ble_eq_true rfl, Nat.le_of_ble_eq_true rfl⟩ rfl dX7_set_97 (fun u9 hP_6 => ?_)
                rw [hP_6]
                clear hP_6 u9
                refine v_aload_n (pc := 100) C 2 rfl rfl dX7_set_100 ?_
                refine gt_14_1 (pc := 101) C u_4_4 dX7_set_101 ?_
                refine v_iload_n (pc := 104) C 3 rfl rfl dX7_set_104 ?_
                refine al_15 (pc := 105) C ⟨by (first | assumption | exact hm0 | exact hms | omega | (unfold rg; omega)), by (first | assumption | exact hm0 | exact hms | omega | (unfold rg; omega))⟩ dX7_set_105 (g 15 0 0 a) (by rw [e15]) ?_
                refine v_istore (pc := 106) C [(5, .int (iI (g 15 0 0 a))), (4, .int (iI (msV a))), (3, .int (iI (lsV a))), (0, .ref (adr L 14 0 0)), (1, .int (iI a)), (2, .int (iI v))] (by decide) rfl dX7_set_106 ?_
                refine v_aload_n (pc := 108) C 3 rfl rfl dX7_set_108 ?_
                refine gt_14_1 (pc := 109) C u_4_4 dX7_set_109 ?_
                refine v_iload_n (pc := 112) C 4 rfl rfl dX7_set_112 ?_
                refine v_iload_n (pc := 113) C 5 rfl rfl dX7_set_113 ?_
                refine as_15 (pc := 114) C ⟨by (first | assumption | exact hm0 | exact hms | omega | (unfold rg; omega)), by (first | assumption | exact hm0 | exact hms | omega | (unfold rg; omega))⟩ dX7_set_114 ?_
                refine v_iload (pc := 115) C 0 rfl dX7_set_115 ?_
                exact v_iret (pc := 117) C hr hlk (by first | exact ⟨_, rfl, Or.inl ⟨by assumption, rfl, rfl⟩⟩ | exact ⟨_, rfl, Or.inr (Or.inl ⟨by assumption, by assumption, rfl, rfl⟩)⟩ | exact ⟨_, rfl, Or.inr (Or.inr (Or.inl ⟨by assumption, by assumption, ⟨by omega, h87c⟩, rfl, rfl⟩))⟩ | exact ⟨_, rfl, Or.inr (Or.inr (Or.inr ⟨by assumption, by assumption, fun hx => absurd hx.1 (by assumption), rfl, rfl⟩))⟩ | exact ⟨_, rfl, Or.inr (Or.inr (Or.inr ⟨by assumption, by assumption, fun hx => absurd h87c hx.2, rfl, rfl⟩))⟩) dX7_set_117
              · skip
                exfalso; omega
            · skip
              have h69c := z1_nef h69
              refine v_aload_n (pc := 72) C 2 rfl rfl dX7_set_72 ?_
              refine v_iconst (pc := 73) C dX7_set_73 ?_
              refine v_calliV (pc := 74) C cw_RX7_40 rcv_14 (ct_X7_fails l L (t0 g) 2 ) ⟨Nat.le_of_ble_eq_true rfl, Nat.le_of_ble_eq_true rfl⟩ rfl (Nat.le_of_ble_eq_true rfl) ⟨Nat.le_of_ble_eq_true rfl, Nat.le_of_ble_eq_true rfl⟩ rfl dX7_set_74 (fun r9 u9 hP_7 => ?_)
              obtain ⟨hP_7, hP_7b⟩ := hP_7
              rw [hP_7, hP_7b]
              clear hP_7 hP_7b r9 u9
              exact v_iret (pc := 77) C hr hlk (by first | exact ⟨_, rfl, Or.inl ⟨by assumption, rfl, rfl⟩⟩ | exact ⟨_, rfl, Or.inr (Or.inl ⟨by assumption, by assumption, rfl, rfl⟩)⟩ | exact ⟨_, rfl, Or.inr (Or.inr (Or.inl ⟨by assumption, by assumption, ⟨by omega, h87c⟩, rfl, rfl⟩))⟩ | exact ⟨_, rfl, Or.inr (Or.inr (Or.inr ⟨by assumption, by assumption, fun hx => absurd hx.1 (by assumption), rfl, rfl⟩))⟩ | exact ⟨_, rfl, Or.inr (Or.inr (Or.inr ⟨by assumption, by assumption, fun hx => absurd h87c hx.2, rfl, rfl⟩))⟩) dX7_set_77
        · skip
          exfalso; omega
    · skip
      refine v_bipush (pc := 24) C rfl dX7_set_24 ?_
      refine v_goto (pc := 26) C 39 (by decide) dX7_set_26 ?_
      refine v_topi (b := lsV a) C (by unfold lsV; (repeat' split) <;> omega) ?_
      refine v_istore_n (pc := 39) C [(3, .int (iI (lsV a))), (0, .ref (adr L 14 0 0)), (1, .int (iI a)), (2, .int (iI v))] rfl (by decide) rfl dX7_set_39 ?_
      refine v_iload_n (pc := 40) C 2 rfl rfl dX7_set_40 ?_
      refine v_if_ne (pc := 41) C 49 ⟨by (first | assumption | exact hm0 | exact hms | omega | (unfold rg; omega)), by (first | assumption | exact hm0 | exact hms | omega | (unfold rg; omega))⟩ (by decide) dX7_set_41 (fun h41 => ?_) (fun h41 => ?_)
      · skip
        exfalso; omega
      · skip
        refine v_bipush (pc := 44) C rfl dX7_set_44 ?_
        refine v_goto (pc := 46) C 60 (by decide) dX7_set_46 ?_
        refine v_topi (b := msV a) C (by unfold msV; (repeat' split) <;> omega) ?_
        refine v_istore (pc := 60) C [(4, .int (iI (msV a))), (3, .int (iI (lsV a))), (0, .ref (adr L 14 0 0)), (1, .int (iI a)), (2, .int (iI v))] (by decide) rfl dX7_set_60 ?_
        have hl1 : 0 ≤ lsV a ∧ lsV a ≤ 8 := by (unfold lsV; (repeat' split) <;> omega)
        have hl2 : 5 ≤ msV a ∧ msV a ≤ 40 := by (unfold msV; (repeat' split) <;> omega)
        refine v_iload_n (pc := 62) C 4 rfl rfl dX7_set_62 ?_
        refine v_iload_n (pc := 63) C 1 rfl rfl dX7_set_63 ?_
        refine v_iload (pc := 64) C 0 rfl dX7_set_64 ?_
        refine v_calliS (pc := 66) C cw_RX7_29 (ct_X7_within l L (t0 g) v (lsV a) (msV a) (by first | assumption | exact hm0 | exact hms | omega | (unfold rg; omega)) (by first | assumption | exact hm0 | exact hms | omega | (unfold rg; omega)) (by first | assumption | exact hm0 | exact hms | omega | (unfold rg; omega))) ⟨Nat.le_of_ble_eq_true rfl, Nat.le_of_ble_eq_true rfl⟩ rfl (Nat.le_of_ble_eq_true rfl) ⟨Nat.le_of_ble_eq_true rfl, Nat.le_of_ble_eq_true rfl⟩ rfl dX7_set_66 (fun r9 u9 hP_8 => ?_)
        obtain ⟨hP_8, hP_8b⟩ := hP_8
        rw [hP_8, hP_8b]
        clear hP_8 hP_8b r9 u9
        refine v_if_ne (pc := 69) C 78 z1_rg (by decide) dX7_set_69 (fun h69 => ?_) (fun h69 => ?_)
        · skip
          have h69c := z1_net h69
          refine v_iload_n (pc := 78) C 3 rfl rfl dX7_set_78 ?_
          refine v_if_ne (pc := 79) C 96 ⟨by (first | assumption | exact hm0 | exact hms | omega | (unfold rg; omega)), by (first | assumption | exact hm0 | exact hms | omega | (unfold rg; omega))⟩ (by decide) dX7_set_79 (fun h79 => ?_) (fun h79 => ?_)
          · skip
            exfalso; omega
          · skip
            refine v_aload_n (pc := 82) C 2 rfl rfl dX7_set_82 ?_
            refine v_iload_n (pc := 83) C 4 rfl rfl dX7_set_83 ?_
            refine v_calliV (pc := 84) C cw_RX7_101 rcv_14 (ct_X7_hasRoom l L (t0 g) 1 v (by first | assumption | exact hm0 | exact hms | omega | (unfold rg; omega)) (by first | assumption | exact hm0 | exact hms | omega | (unfold rg; omega)) (by first | assumption | exact hm0 | exact hms | omega | (unfold rg; omega))) ⟨Nat.le_of_ble_eq_true rfl, Nat.le_of_ble_eq_true rfl⟩ rfl (Nat.le_of_ble_eq_true rfl) ⟨Nat.le_of_ble_eq_true rfl, Nat.le_of_ble_eq_true rfl⟩ rfl dX7_set_84 (fun r9 u9 hP_9 => ?_)
            obtain ⟨hP_9, hP_9b⟩ := hP_9
            rw [hP_9, hP_9b]
            clear hP_9 hP_9b r9 u9
            refine v_if_ne (pc := 87) C 96 z1_rg (by decide) dX7_set_87 (fun h87 => ?_) (fun h87 => ?_)
            · skip
              have h87c := z1_net h87
              refine v_aload_n (pc := 96) C 2 rfl rfl dX7_set_96 ?_
              refine v_callvV (pc := 97) C cw_RX7_44 rcv_14 (ct_X7_save l L (t0 g) (by first | assumption | exact hm0 | exact hms | omega | (unfold rg; omega))) ⟨Nat.le_of_ble_eq_true rfl, Nat.le_of_ble_eq_true rfl⟩ rfl (Nat.le_of_ble_eq_true rfl) ⟨Nat.le_of_ble_eq_true rfl, Nat.le_of_ble_eq_true rfl⟩ rfl dX7_set_97 (fun u9 hP_10 => ?_)
              rw [hP_10]
              clear hP_10 u9
              refine v_aload_n (pc := 100) C 2 rfl rfl dX7_set_100 ?_
              refine gt_14_1 (pc := 101) C u_4_4 dX7_set_101 ?_
              refine v_iload_n (pc := 104) C 3 rfl rfl dX7_set_104 ?_
              refine al_15 (pc := 105) C ⟨by (first | assumption | exact hm0 | exact hms | omega | (unfold rg; omega)), by (first | assumption | exact hm0 | exact hms | omega | (unfold rg; omega))⟩ dX7_set_105 (g 15 0 0 a) (by rw [e15]) ?_
              refine v_istore (pc := 106) C [(5, .int (iI (g 15 0 0 a))), (4, .int (iI (msV a))), (3, .int (iI (lsV a))), (0, .ref (adr L 14 0 0)), (1, .int (iI a)), (2, .int (iI v))] (by decide) rfl dX7_set_106 ?_
              refine v_aload_n (pc := 108) C 3 rfl rfl dX7_set_108 ?_
              refine gt_14_1 (pc := 109) C u_4_4 dX7_set_109 ?_
              refine v_iload_n (pc := 112) C 4 rfl rfl dX7_set_112 ?_
              refine v_iload_n (pc := 113) C 5 rfl rfl dX7_set_113 ?_
              refine as_15 (pc := 114) C ⟨by (first | assumption | exact hm0 | exact hms | omega | (unfold rg; omega)), by (first | assumption | exact hm0 | exact hms | omega | (unfold rg; omega))⟩ dX7_set_114 ?_
              refine v_iload (pc := 115) C 0 rfl dX7_set_115 ?_
              exact v_iret (pc := 117) C hr hlk (by first | exact ⟨_, rfl, Or.inl ⟨by assumption, rfl, rfl⟩⟩ | exact ⟨_, rfl, Or.inr (Or.inl ⟨by assumption, by assumption, rfl, rfl⟩)⟩ | exact ⟨_, rfl, Or.inr (Or.inr (Or.inl ⟨by assumption, by assumption, ⟨by omega, h87c⟩, rfl, rfl⟩))⟩ | exact ⟨_, rfl, Or.inr (Or.inr (Or.inr ⟨by assumption, by assumption, fun hx => absurd hx.1 (by assumption), rfl, rfl⟩))⟩ | exact ⟨_, rfl, Or.inr (Or.inr (Or.inr ⟨by assumption, by assumption, fun hx => absurd h87c hx.2, rfl, rfl⟩))⟩) dX7_set_117
            · skip
              have h87c := z1_nef h87
              refine v_aload_n (pc := 90) C 2 rfl rfl dX7_set_90 ?_
              refine v_iconst (pc := 91) C dX7_set_91 ?_
              refine v_calliV (pc := 92) C cw_RX7_40 rcv_14 (ct_X7_fails l L (t0 g) 3 ) ⟨Nat.le_of_ble_eq_true rfl, Nat.le_of_ble_eq_true rfl⟩ rfl (Nat.le_of_ble_eq_true rfl) ⟨Nat.le_of_ble_eq_true rfl, Nat.le_of_ble_eq_true rfl⟩ rfl dX7_set_92 (fun r9 u9 hP_11 => ?_)
              obtain ⟨hP_11, hP_11b⟩ := hP_11
              rw [hP_11, hP_11b]
              clear hP_11 hP_11b r9 u9
              exact v_iret (pc := 95) C hr hlk (by first | exact ⟨_, rfl, Or.inl ⟨by assumption, rfl, rfl⟩⟩ | exact ⟨_, rfl, Or.inr (Or.inl ⟨by assumption, by assumption, rfl, rfl⟩)⟩ | exact ⟨_, rfl, Or.inr (Or.inr (Or.inl ⟨by assumption, by assumption, ⟨by omega, h87c⟩, rfl, rfl⟩))⟩ | exact ⟨_, rfl, Or.inr (Or.inr (Or.inr ⟨by assumption, by assumption, fun hx => absurd hx.1 (by assumption), rfl, rfl⟩))⟩ | exact ⟨_, rfl, Or.inr (Or.inr (Or.inr ⟨by assumption, by assumption, fun hx => absurd h87c hx.2, rfl, rfl⟩))⟩) dX7_set_95
        · skip
          have h69c := z1_nef h69
          refine v_aload_n (pc := 72) C 2 rfl rfl dX7_set_72 ?_
          refine v_iconst (pc := 73) C dX7_set_73 ?_
          refine v_calliV (pc := 74) C cw_RX7_40 rcv_14 (ct_X7_fails l L (t0 g) 2 ) ⟨Nat.le_of_ble_eq_true rfl, Nat.le_of_ble_eq_true rfl⟩ rfl (Nat.le_of_ble_eq_true rfl) ⟨Nat.le_of_ble_eq_true rfl, Nat.le_of_ble_eq_true rfl⟩ rfl dX7_set_74 (fun r9 u9 hP_12 => ?_)
          obtain ⟨hP_12, hP_12b⟩ := hP_12
          rw [hP_12, hP_12b]
          clear hP_12 hP_12b r9 u9
          exact v_iret (pc := 77) C hr hlk (by first | exact ⟨_, rfl, Or.inl ⟨by assumption, rfl, rfl⟩⟩ | exact ⟨_, rfl, Or.inr (Or.inl ⟨by assumption, by assumption, rfl, rfl⟩)⟩ | exact ⟨_, rfl, Or.inr (Or.inr (Or.inl ⟨by assumption, by assumption, ⟨by omega, h87c⟩, rfl, rfl⟩))⟩ | exact ⟨_, rfl, Or.inr (Or.inr (Or.inr ⟨by assumption, by assumption, fun hx => absurd hx.1 (by assumption), rfl, rfl⟩))⟩ | exact ⟨_, rfl, Or.inr (Or.inr (Or.inr ⟨by assumption, by assumption, fun hx => absurd h87c hx.2, rfl, rfl⟩))⟩) dX7_set_77
  · skip
    have h11c := z1_nef h11
    refine v_aload_n (pc := 14) C 0 rfl rfl dX7_set_14 ?_
    refine v_iconst (pc := 15) C dX7_set_15 ?_
    refine v_calliV (pc := 16) C cw_RX7_40 rcv_14 (ct_X7_fails l L (t0 g) 1 ) ⟨Nat.le_of_ble_eq_true rfl, Nat.le_of_ble_eq_true rfl⟩ rfl (Nat.le_of_ble_eq_true rfl) ⟨Nat.le_of_ble_eq_true rfl, Nat.le_of_ble_eq_true rfl⟩ rfl dX7_set_16 (fun r9 u9 hP_13 => ?_)
    obtain ⟨hP_13, hP_13b⟩ := hP_13
    rw [hP_13, hP_13b]
    clear hP_13 hP_13b r9 u9
    exact v_iret (pc := 19) C hr hlk (by first | exact ⟨_, rfl, Or.inl ⟨by assumption, rfl, rfl⟩⟩ | exact ⟨_, rfl, Or.inr (Or.inl ⟨by assumption, by assumption, rfl, rfl⟩)⟩ | exact ⟨_, rfl, Or.inr (Or.inr (Or.inl ⟨by assumption, by assumption, ⟨by omega, h87c⟩, rfl, rfl⟩))⟩ | exact ⟨_, rfl, Or.inr (Or.inr (Or.inr ⟨by assumption, by assumption, fun hx => absurd hx.1 (by assumption), rfl, rfl⟩))⟩ | exact ⟨_, rfl, Or.inr (Or.inr (Or.inr ⟨by assumption, by assumption, fun hx => absurd h87c hx.2, rfl, rfl⟩))⟩) dX7_set_19
set_option maxHeartbeats 4000000 in
set_option maxRecDepth 100000 in
theorem ct_X7_pass (l : Launch) (L : Lay) (g : St) (t : Int) (hm : wm (g 15 0 0) 1) (h3 : 0 ≤ g 14 0 0 3 ∧ g 14 0 0 3 ≤ 6) (hrt : rg t) : Met l yX7_pass (.code yX7_pass cX7_pass 2 (some .int) :: wsL_law) { frames := 4, cells := 0, slots := 0, locals := 95 } (va_Pc [.ref (adr L 14 0 0), .int (iI t)] (HS L g)) (va_Qi (fun (r9 : Int32) (u : St) => ∃ z : Int, r9 = iI z ∧ ((¬ (1 ≤ t ∧ t ≤ 99) ∧ u = er g 1 ∧ z = 0) ∨ ((1 ≤ t ∧ t ≤ 99) ∧ ¬ g 15 0 0 3 + t ≤ 99999 ∧ u = er g 2 ∧ z = 0) ∨ ((1 ≤ t ∧ t ≤ 99) ∧ g 15 0 0 3 + t ≤ 99999 ∧ u = (tuN (svM (t0 g)) t.toNat).1 ∧ z = (tuN (svM (t0 g)) t.toNat).2))) (fun u t => HS L u t) (Af L)) 0 0 (Af L) := by
  refine ct_mk (by decide +kernel) (Nat.le_of_ble_eq_true rfl) ?_
  intro pp ee ss mm bel mth cx C hr hlk
  show V pp l ee { frames := 4, cells := 0, slots := 0, locals := 95 } ss mm ([.ref (adr L 14 0 0), .int (iI t)]).toArray bel mth cx 2 L (HH L g) 0 0 _ 0 [(0, .ref (adr L 14 0 0)), (1, .int (iI t))] []
  have hm0 := wm_t0 hm
  have e15 := sv_15 g
  have hms : wm (svM (t0 g) 15 0 0) 1 := by (rw [e15]; exact hm)
  have h30 : 0 ≤ t0 g 14 0 0 3 ∧ t0 g 14 0 0 3 ≤ 6 := by (rw [t0_3]; exact h3)
  have u15 := fun p => mUw_15 e15 p
  obtain ⟨mS0, mS1, mS2, mB0, mB1, mB2, mCl, mN, mPl, mEc⟩ := id hm
  refine v_aload_n (pc := 0) C 0 rfl rfl dX7_pass_0 ?_
  refine v_iconst (pc := 1) C dX7_pass_1 ?_
  refine pt_14_0 (pc := 2) C u_8_10 dX7_pass_2 ?_
  refine v_st (g2 := t0 g) C (rfl) ?_
  refine v_iload_n (pc := 5) C 1 rfl rfl dX7_pass_5 ?_
  refine v_iconst (pc := 6) C dX7_pass_6 ?_
  refine v_bipush (pc := 7) C rfl dX7_pass_7 ?_
  refine v_calliS (pc := 9) C cw_RX7_29 (ct_X7_within l L (t0 g) t 1 99 (by first | assumption | exact hm0 | exact hms | omega | (unfold rg; omega)) (by first | assumption | exact hm0 | exact hms | omega | (unfold rg; omega)) (by first | assumption | exact hm0 | exact hms | omega | (unfold rg; omega))) ⟨Nat.le_of_ble_eq_true rfl, Nat.le_of_ble_eq_true rfl⟩ rfl (Nat.le_of_ble_eq_true rfl) ⟨Nat.le_of_ble_eq_true rfl, Nat.le_of_ble_eq_true rfl⟩ rfl dX7_pass_9 (fun r9 u9 hP_1 => ?_)
  obtain ⟨hP_1, hP_1b⟩ := hP_1
  rw [hP_1, hP_1b]
  clear hP_1 hP_1b r9 u9
  refine v_if_ne (pc := 12) C 21 z1_rg (by decide) dX7_pass_12 (fun h12 => ?_) (fun h12 => ?_)
  · skip
    have h12c := z1_net h12
    refine v_aload_n (pc := 21) C 0 rfl rfl dX7_pass_21 ?_
    refine gt_14_1 (pc := 22) C u_4_4 dX7_pass_22 ?_
    refine v_iconst (pc := 25) C dX7_pass_25 ?_
    refine al_15 (pc := 26) C ⟨by (first | assumption | exact hm0 | exact hms | omega | (unfold rg; omega)), by (first | assumption | exact hm0 | exact hms | omega | (unfold rg; omega))⟩ dX7_pass_26 (g 15 0 0 3) (by rw [t0_f (by decide)]) ?_
    refine v_iload_n (pc := 27) C 1 rfl rfl dX7_pass_27 ?_
    refine v_iadd (pc := 28) C dX7_pass_28 ?_
    refine v_ldc (pc := 29) (z := 99999) C (by decide +kernel) u_15_8 dX7_pass_29 ?_
    refine v_icmp_le (pc := 31) C 40 ⟨by (first | assumption | exact hm0 | exact hms | omega | (unfold rg; omega)), by (first | assumption | exact hm0 | exact hms | omega | (unfold rg; omega))⟩ ⟨by (first | assumption | exact hm0 | exact hms | omega | (unfold rg; omega)), by (first | assumption | exact hm0 | exact hms | omega | (unfold rg; omega))⟩ (by decide) dX7_pass_31 (fun h31 => ?_) (fun h31 => ?_)
    · skip
      refine v_aload_n (pc := 40) C 0 rfl rfl dX7_pass_40 ?_
      refine v_callvV (pc := 41) C cw_RX7_44 rcv_14 (ct_X7_save l L (t0 g) (by first | assumption | exact hm0 | exact hms | omega | (unfold rg; omega))) ⟨Nat.le_of_ble_eq_true rfl, Nat.le_of_ble_eq_true rfl⟩ rfl (Nat.le_of_ble_eq_true rfl) ⟨Nat.le_of_ble_eq_true rfl, Nat.le_of_ble_eq_true rfl⟩ rfl dX7_pass_41 (fun u9 hP_2 => ?_)
      rw [hP_2]
      clear hP_2 u9
      refine v_aload_n (pc := 44) C 0 rfl rfl dX7_pass_44 ?_
      refine v_iload_n (pc := 45) C 1 rfl rfl dX7_pass_45 ?_
      refine v_calliV (pc := 46) C cw_RX7_105 rcv_14 (ct_X7_doesPass l L (svM (t0 g)) t (by first | assumption | exact hm0 | exact hms | omega | (unfold rg; omega)) (by first | assumption | exact hm0 | exact hms | omega | (unfold rg; omega)) (by rw [e15]; omega)) ⟨Nat.le_of_ble_eq_true rfl, Nat.le_of_ble_eq_true rfl⟩ rfl (Nat.le_of_ble_eq_true rfl) ⟨Nat.le_of_ble_eq_true rfl, Nat.le_of_ble_eq_true rfl⟩ rfl dX7_pass_46 (fun r9 u9 hP_3 => ?_)
      obtain ⟨hP_3, hP_3b⟩ := hP_3
      rw [hP_3, hP_3b]
      clear hP_3 hP_3b r9 u9
      exact v_iret (pc := 49) C hr hlk (by first | exact ⟨_, rfl, Or.inl ⟨by assumption, rfl, rfl⟩⟩ | exact ⟨_, rfl, Or.inr (Or.inl ⟨by assumption, by assumption, rfl, rfl⟩)⟩ | exact ⟨_, rfl, Or.inr (Or.inr ⟨by assumption, by assumption, rfl, rfl⟩)⟩ | exact ⟨_, rfl, Or.inr ⟨by assumption, rfl, rfl⟩⟩) dX7_pass_49
    · skip
      refine v_aload_n (pc := 34) C 0 rfl rfl dX7_pass_34 ?_
      refine v_iconst (pc := 35) C dX7_pass_35 ?_
      refine v_calliV (pc := 36) C cw_RX7_40 rcv_14 (ct_X7_fails l L (t0 g) 2 ) ⟨Nat.le_of_ble_eq_true rfl, Nat.le_of_ble_eq_true rfl⟩ rfl (Nat.le_of_ble_eq_true rfl) ⟨Nat.le_of_ble_eq_true rfl, Nat.le_of_ble_eq_true rfl⟩ rfl dX7_pass_36 (fun r9 u9 hP_4 => ?_)
      obtain ⟨hP_4, hP_4b⟩ := hP_4
      rw [hP_4, hP_4b]
      clear hP_4 hP_4b r9 u9
      exact v_iret (pc := 39) C hr hlk (by first | exact ⟨_, rfl, Or.inl ⟨by assumption, rfl, rfl⟩⟩ | exact ⟨_, rfl, Or.inr (Or.inl ⟨by assumption, by assumption, rfl, rfl⟩)⟩ | exact ⟨_, rfl, Or.inr (Or.inr ⟨by assumption, by assumption, rfl, rfl⟩)⟩ | exact ⟨_, rfl, Or.inr ⟨by assumption, rfl, rfl⟩⟩) dX7_pass_39
  · skip
    have h12c := z1_nef h12
    refine v_aload_n (pc := 15) C 0 rfl rfl dX7_pass_15 ?_
    refine v_iconst (pc := 16) C dX7_pass_16 ?_
    refine v_calliV (pc := 17) C cw_RX7_40 rcv_14 (ct_X7_fails l L (t0 g) 1 ) ⟨Nat.le_of_ble_eq_true rfl, Nat.le_of_ble_eq_true rfl⟩ rfl (Nat.le_of_ble_eq_true rfl) ⟨Nat.le_of_ble_eq_true rfl, Nat.le_of_ble_eq_true rfl⟩ rfl dX7_pass_17 (fun r9 u9 hP_5 => ?_)
    obtain ⟨hP_5, hP_5b⟩ := hP_5
    rw [hP_5, hP_5b]
    clear hP_5 hP_5b r9 u9
    exact v_iret (pc := 20) C hr hlk (by first | exact ⟨_, rfl, Or.inl ⟨by assumption, rfl, rfl⟩⟩ | exact ⟨_, rfl, Or.inr (Or.inl ⟨by assumption, by assumption, rfl, rfl⟩)⟩ | exact ⟨_, rfl, Or.inr (Or.inr ⟨by assumption, by assumption, rfl, rfl⟩)⟩ | exact ⟨_, rfl, Or.inr ⟨by assumption, rfl, rfl⟩⟩) dX7_pass_20
set_option maxHeartbeats 4000000 in
set_option maxRecDepth 100000 in
theorem ct_X7_keep (l : Launch) (L : Lay) (g : St) (a : Int) (hra : rg a) : Met l yX7_keep (.code yX7_keep cX7_keep 3 (some .int) :: wsL_law) { frames := 1, cells := 0, slots := 0, locals := 22 } (va_Pc [.ref (adr L 14 0 0), .int (iI a)] (HS L g)) (va_Qi (fun (r9 : Int32) (u : St) => ∃ z : Int, r9 = iI z ∧ ((¬ (0 ≤ a ∧ a ≤ 1) ∧ u = er g 1 ∧ z = 0) ∨ ((0 ≤ a ∧ a ≤ 1) ∧ u = up (ksM (t0 g) a 154) 18 0 0 a 1 ∧ z = g 15 0 0 3))) (fun u t => HS L u t) (Af L)) 0 0 (Af L) := by
  refine ct_mk (by decide +kernel) (Nat.le_of_ble_eq_true rfl) ?_
  intro pp ee ss mm bel mth cx C hr hlk
  show V pp l ee { frames := 1, cells := 0, slots := 0, locals := 22 } ss mm ([.ref (adr L 14 0 0), .int (iI a)]).toArray bel mth cx 3 L (HH L g) 0 0 _ 0 [(0, .ref (adr L 14 0 0)), (1, .int (iI a))] []
  refine v_aload_n (pc := 0) C 0 rfl rfl dX7_keep_0 ?_
  refine v_iconst (pc := 1) C dX7_keep_1 ?_
  refine pt_14_0 (pc := 2) C u_8_10 dX7_keep_2 ?_
  refine v_st (g2 := t0 g) C (rfl) ?_
  refine v_iload_n (pc := 5) C 1 rfl rfl dX7_keep_5 ?_
  refine v_iconst (pc := 6) C dX7_keep_6 ?_
  refine v_iconst (pc := 7) C dX7_keep_7 ?_
  refine v_calliS (pc := 8) C cw_RX7_29 (ct_X7_within l L (t0 g) a 0 1 (by first | assumption | omega | (unfold rg; omega)) (by first | assumption | omega | (unfold rg; omega)) (by first | assumption | omega | (unfold rg; omega))) ⟨Nat.le_of_ble_eq_true rfl, Nat.le_of_ble_eq_true rfl⟩ rfl (Nat.le_of_ble_eq_true rfl) ⟨Nat.le_of_ble_eq_true rfl, Nat.le_of_ble_eq_true rfl⟩ rfl dX7_keep_8 (fun r9 u9 hP_1 => ?_)
  obtain ⟨hP_1, hP_1b⟩ := hP_1
  rw [hP_1, hP_1b]
  clear hP_1 hP_1b r9 u9
  refine v_if_ne (pc := 11) C 20 z1_rg (by decide) dX7_keep_11 (fun h11 => ?_) (fun h11 => ?_)
  · skip
    have h11c := z1_net h11
    refine v_iconst (pc := 20) C dX7_keep_20 ?_
    refine v_istore_n (pc := 21) C [(2, .int (iI 0)), (0, .ref (adr L 14 0 0)), (1, .int (iI a))] rfl (by decide) rfl dX7_keep_21 ?_
    have lb22 : ∀ (n9 : Nat) (i : Int), (0 ≤ i ∧ i ≤ 154) → (154 - i).toNat < n9 → V pp l ee { frames := 1, cells := 0, slots := 0, locals := 22 } ss mm ([.ref (adr L 14 0 0), .int (iI a)]).toArray bel mth cx 3 L (HH L (ksM (t0 g) a i)) 0 0 (MQ bel (va_Qi (fun (r9 : Int32) (u : St) => ∃ z : Int, r9 = iI z ∧ ((¬ (0 ≤ a ∧ a ≤ 1) ∧ u = er g 1 ∧ z = 0) ∨ ((0 ≤ a ∧ a ≤ 1) ∧ u = up (ksM (t0 g) a 154) 18 0 0 a 1 ∧ z = g 15 0 0 3))) (fun u t => HS L u t) (Af L)) ([.ref (adr L 14 0 0), .int (iI a)]).toArray ss 0 0 (Af L)) 22 [(0, .ref (adr L 14 0 0)), (1, .int (iI a)), (2, .int (iI i))] [] := by
      intro n9
      induction n9 with
      | zero => intro i hi hm9; exact absurd hm9 (Nat.not_lt_zero _)
      | succ n9 ih9 =>
        intro i hi hm9
        have ih22 := ih9
        refine v_iload_n (pc := 22) C 2 rfl rfl dX7_keep_22 ?_
        refine v_sipush (pc := 23) C rfl dX7_keep_23 ?_
        refine v_icmp_ge (pc := 26) C 53 ⟨by (first | assumption | omega | (unfold rg; omega)), by (first | assumption | omega | (unfold rg; omega))⟩ ⟨by (first | assumption | omega | (unfold rg; omega)), by (first | assumption | omega | (unfold rg; omega))⟩ (by decide) dX7_keep_26 (fun h26 => ?_) (fun h26 => ?_)
        · skip
          refine v_st (g2 := ksM (t0 g) a 154) C (by rw [show i = 154 by omega]) ?_
          refine v_aload_n (pc := 53) C 0 rfl rfl dX7_keep_53 ?_
          refine gt_14_5 (pc := 54) C u_4_7 dX7_keep_54 ?_
          refine v_iload_n (pc := 57) C 1 rfl rfl dX7_keep_57 ?_
          refine v_iconst (pc := 58) C dX7_keep_58 ?_
          refine as_18 (pc := 59) C ⟨by (first | assumption | omega | (unfold rg; omega)), by (first | assumption | omega | (unfold rg; omega))⟩ dX7_keep_59 ?_
          refine v_aload_n (pc := 60) C 0 rfl rfl dX7_keep_60 ?_
          refine gt_14_1 (pc := 61) C u_4_4 dX7_keep_61 ?_
          refine v_iconst (pc := 64) C dX7_keep_64 ?_
          refine al_15 (pc := 65) C ⟨by (first | assumption | omega | (unfold rg; omega)), by (first | assumption | omega | (unfold rg; omega))⟩ dX7_keep_65 (g 15 0 0 3) (by simp [ksM, up]) ?_
          exact v_iret (pc := 66) C hr hlk (by first | exact ⟨_, rfl, Or.inl ⟨by assumption, rfl, rfl⟩⟩ | exact ⟨_, rfl, Or.inr (Or.inl ⟨by assumption, by assumption, rfl, rfl⟩)⟩ | exact ⟨_, rfl, Or.inr (Or.inr ⟨by assumption, by assumption, rfl, rfl⟩)⟩ | exact ⟨_, rfl, Or.inr ⟨by assumption, rfl, rfl⟩⟩) dX7_keep_66
        · skip
          refine v_aload_n (pc := 29) C 0 rfl rfl dX7_keep_29 ?_
          refine gt_14_4 (pc := 30) C u_4_6 dX7_keep_30 ?_
          refine v_sipush (pc := 33) C rfl dX7_keep_33 ?_
          refine v_iload_n (pc := 36) C 1 rfl rfl dX7_keep_36 ?_
          refine v_imul (pc := 37) C dX7_keep_37 ?_
          refine v_iload_n (pc := 38) C 2 rfl rfl dX7_keep_38 ?_
          refine v_iadd (pc := 39) C dX7_keep_39 ?_
          refine v_aload_n (pc := 40) C 0 rfl rfl dX7_keep_40 ?_
          refine gt_14_1 (pc := 41) C u_4_4 dX7_keep_41 ?_
          refine v_iload_n (pc := 44) C 2 rfl rfl dX7_keep_44 ?_
          refine al_15 (pc := 45) C ⟨by (first | assumption | omega | (unfold rg; omega)), by (first | assumption | omega | (unfold rg; omega))⟩ dX7_keep_45 (t0 g 15 0 0 i) (by simp [ksM]) ?_
          refine as_17 (pc := 46) C ⟨by (first | assumption | omega | (unfold rg; omega)), by (first | assumption | omega | (unfold rg; omega))⟩ dX7_keep_46 ?_
          refine v_iinc (pc := 47) C 2 [(2, .int (iI (i + 1))), (0, .ref (adr L 14 0 0)), (1, .int (iI a))] rfl (by decide) rfl dX7_keep_47 ?_
          refine v_goto (pc := 50) C 22 (by decide) dX7_keep_50 ?_
          refine v_lsub [1, 2, 0] rfl ?_
          refine v_st (g2 := ksM (t0 g) a (i + 1)) C (by exact ksM_s _ _ _ hi.1) ?_
          exact ih22 (i + 1) (by omega) (by omega)
    refine v_lsub [1, 2, 0] rfl ?_
    refine v_st (g2 := ksM (t0 g) a 0) C (by exact (ksM_0 _ _).symm) ?_
    exact lb22 _ 0 (by omega) (Nat.lt_succ_self _)
  · skip
    have h11c := z1_nef h11
    refine v_aload_n (pc := 14) C 0 rfl rfl dX7_keep_14 ?_
    refine v_iconst (pc := 15) C dX7_keep_15 ?_
    refine v_calliV (pc := 16) C cw_RX7_40 rcv_14 (ct_X7_fails l L (t0 g) 1 ) ⟨Nat.le_of_ble_eq_true rfl, Nat.le_of_ble_eq_true rfl⟩ rfl (Nat.le_of_ble_eq_true rfl) ⟨Nat.le_of_ble_eq_true rfl, Nat.le_of_ble_eq_true rfl⟩ rfl dX7_keep_16 (fun r9 u9 hP_2 => ?_)
    obtain ⟨hP_2, hP_2b⟩ := hP_2
    rw [hP_2, hP_2b]
    clear hP_2 hP_2b r9 u9
    exact v_iret (pc := 19) C hr hlk (by first | exact ⟨_, rfl, Or.inl ⟨by assumption, rfl, rfl⟩⟩ | exact ⟨_, rfl, Or.inr (Or.inl ⟨by assumption, by assumption, rfl, rfl⟩)⟩ | exact ⟨_, rfl, Or.inr (Or.inr ⟨by assumption, by assumption, rfl, rfl⟩)⟩ | exact ⟨_, rfl, Or.inr ⟨by assumption, rfl, rfl⟩⟩) dX7_keep_19
set_option maxHeartbeats 4000000 in
set_option maxRecDepth 100000 in
theorem ct_X7_goBack (l : Launch) (L : Lay) (g : St) (a : Int) (h3 : 0 ≤ g 14 0 0 3 ∧ g 14 0 0 3 ≤ 6) (hk : ∀ i, 0 ≤ i → i < 2 → g 18 0 0 i = 0 ∨ g 18 0 0 i = 1) (hra : rg a) : Met l yX7_goBack (.code yX7_goBack cX7_goBack 3 (some .int) :: wsL_law) { frames := 1, cells := 0, slots := 0, locals := 22 } (va_Pc [.ref (adr L 14 0 0), .int (iI a)] (HS L g)) (va_Qi (fun (r9 : Int32) (u : St) => ∃ z : Int, r9 = iI z ∧ ((¬ (0 ≤ a ∧ a ≤ 1) ∧ u = er g 1 ∧ z = 0) ∨ ((0 ≤ a ∧ a ≤ 1) ∧ ¬ g 18 0 0 a ≠ 0 ∧ u = er g 2 ∧ z = 0) ∨ ((0 ≤ a ∧ a ≤ 1) ∧ g 18 0 0 a ≠ 0 ∧ u = gbM (svM (t0 g)) 17 (154 * a) 154 ∧ z = g 17 0 0 (154 * a + 3)))) (fun u t => HS L u t) (Af L)) 0 0 (Af L) := by
  refine ct_mk (by decide +kernel) (Nat.le_of_ble_eq_true rfl) ?_
  intro pp ee ss mm bel mth cx C hr hlk
  show V pp l ee { frames := 1, cells := 0, slots := 0, locals := 22 } ss mm ([.ref (adr L 14 0 0), .int (iI a)]).toArray bel mth cx 3 L (HH L g) 0 0 _ 0 [(0, .ref (adr L 14 0 0)), (1, .int (iI a))] []
  have h30 : 0 ≤ t0 g 14 0 0 3 ∧ t0 g 14 0 0 3 ≤ 6 := by (rw [t0_3]; exact h3)
  have e17 : svM (t0 g) 17 = g 17 := by (rw [svM_f _ (by decide) (by decide), t0_f (by decide)])
  refine v_aload_n (pc := 0) C 0 rfl rfl dX7_goBack_0 ?_
  refine v_iconst (pc := 1) C dX7_goBack_1 ?_
  refine pt_14_0 (pc := 2) C u_8_10 dX7_goBack_2 ?_
  refine v_st (g2 := t0 g) C (rfl) ?_
  refine v_iload_n (pc := 5) C 1 rfl rfl dX7_goBack_5 ?_
  refine v_iconst (pc := 6) C dX7_goBack_6 ?_
  refine v_iconst (pc := 7) C dX7_goBack_7 ?_
  refine v_calliS (pc := 8) C cw_RX7_29 (ct_X7_within l L (t0 g) a 0 1 (by first | assumption | omega | (unfold rg; omega)) (by first | assumption | omega | (unfold rg; omega)) (by first | assumption | omega | (unfold rg; omega))) ⟨Nat.le_of_ble_eq_true rfl, Nat.le_of_ble_eq_true rfl⟩ rfl (Nat.le_of_ble_eq_true rfl) ⟨Nat.le_of_ble_eq_true rfl, Nat.le_of_ble_eq_true rfl⟩ rfl dX7_goBack_8 (fun r9 u9 hP_1 => ?_)
  obtain ⟨hP_1, hP_1b⟩ := hP_1
  rw [hP_1, hP_1b]
  clear hP_1 hP_1b r9 u9
  refine v_if_ne (pc := 11) C 20 z1_rg (by decide) dX7_goBack_11 (fun h11 => ?_) (fun h11 => ?_)
  · skip
    have h11c := z1_net h11
    have hka := hk a (by omega) (by omega)
    refine v_aload_n (pc := 20) C 0 rfl rfl dX7_goBack_20 ?_
    refine gt_14_5 (pc := 21) C u_4_7 dX7_goBack_21 ?_
    refine v_iload_n (pc := 24) C 1 rfl rfl dX7_goBack_24 ?_
    refine al_18 (pc := 25) C ⟨by (first | assumption | omega | (unfold rg; omega)), by (first | assumption | omega | (unfold rg; omega))⟩ dX7_goBack_25 (g 18 0 0 a) (by rw [t0_f (by decide)]) ?_
    refine v_if_ne (pc := 26) C 35 ⟨by (first | assumption | omega | (unfold rg; omega)), by (first | assumption | omega | (unfold rg; omega))⟩ (by decide) dX7_goBack_26 (fun h26 => ?_) (fun h26 => ?_)
    · skip
      refine v_aload_n (pc := 35) C 0 rfl rfl dX7_goBack_35 ?_
      refine v_callvV (pc := 36) C cw_RX7_44 rcv_14 (ct_X7_save l L (t0 g) (by first | assumption | omega | (unfold rg; omega))) ⟨Nat.le_of_ble_eq_true rfl, Nat.le_of_ble_eq_true rfl⟩ rfl (Nat.le_of_ble_eq_true rfl) ⟨Nat.le_of_ble_eq_true rfl, Nat.le_of_ble_eq_true rfl⟩ rfl dX7_goBack_36 (fun u9 hP_2 => ?_)
      rw [hP_2]
      clear hP_2 u9
      refine v_iconst (pc := 39) C dX7_goBack_39 ?_
      refine v_istore_n (pc := 40) C [(2, .int (iI 0)), (0, .ref (adr L 14 0 0)), (1, .int (iI a))] rfl (by decide) rfl dX7_goBack_40 ?_
      have lb41 : ∀ (n9 : Nat) (i : Int), (0 ≤ i ∧ i ≤ 154) → (154 - i).toNat < n9 → V pp l ee { frames := 1, cells := 0, slots := 0, locals := 22 } ss mm ([.ref (adr L 14 0 0), .int (iI a)]).toArray bel mth cx 3 L (HH L (gbM (svM (t0 g)) 17 (154 * a) i)) 0 0 (MQ bel (va_Qi (fun (r9 : Int32) (u : St) => ∃ z : Int, r9 = iI z ∧ ((¬ (0 ≤ a ∧ a ≤ 1) ∧ u = er g 1 ∧ z = 0) ∨ ((0 ≤ a ∧ a ≤ 1) ∧ ¬ g 18 0 0 a ≠ 0 ∧ u = er g 2 ∧ z = 0) ∨ ((0 ≤ a ∧ a ≤ 1) ∧ g 18 0 0 a ≠ 0 ∧ u = gbM (svM (t0 g)) 17 (154 * a) 154 ∧ z = g 17 0 0 (154 * a + 3)))) (fun u t => HS L u t) (Af L)) ([.ref (adr L 14 0 0), .int (iI a)]).toArray ss 0 0 (Af L)) 41 [(0, .ref (adr L 14 0 0)), (1, .int (iI a)), (2, .int (iI i))] [] := by
        intro n9
        induction n9 with
        | zero => intro i hi hm9; exact absurd hm9 (Nat.not_lt_zero _)
        | succ n9 ih9 =>
          intro i hi hm9
          have ih41 := ih9
          refine v_iload_n (pc := 41) C 2 rfl rfl dX7_goBack_41 ?_
          refine v_sipush (pc := 42) C rfl dX7_goBack_42 ?_
          refine v_icmp_ge (pc := 45) C 72 ⟨by (first | assumption | omega | (unfold rg; omega)), by (first | assumption | omega | (unfold rg; omega))⟩ ⟨by (first | assumption | omega | (unfold rg; omega)), by (first | assumption | omega | (unfold rg; omega))⟩ (by decide) dX7_goBack_45 (fun h45 => ?_) (fun h45 => ?_)
          · skip
            refine v_st (g2 := gbM (svM (t0 g)) 17 (154 * a) 154) C (by rw [show i = 154 by omega]) ?_
            refine v_aload_n (pc := 72) C 0 rfl rfl dX7_goBack_72 ?_
            refine gt_14_1 (pc := 73) C u_4_4 dX7_goBack_73 ?_
            refine v_iconst (pc := 76) C dX7_goBack_76 ?_
            refine al_15 (pc := 77) C ⟨by (first | assumption | omega | (unfold rg; omega)), by (first | assumption | omega | (unfold rg; omega))⟩ dX7_goBack_77 (g 17 0 0 (154 * a + 3)) (by rw [← e17]; simp [gbM]) ?_
            exact v_iret (pc := 78) C hr hlk (by first | exact ⟨_, rfl, Or.inl ⟨by assumption, rfl, rfl⟩⟩ | exact ⟨_, rfl, Or.inr (Or.inl ⟨by assumption, by assumption, rfl, rfl⟩)⟩ | exact ⟨_, rfl, Or.inr (Or.inr ⟨by assumption, by assumption, rfl, rfl⟩)⟩ | exact ⟨_, rfl, Or.inr ⟨by assumption, rfl, rfl⟩⟩) dX7_goBack_78
          · skip
            refine v_aload_n (pc := 48) C 0 rfl rfl dX7_goBack_48 ?_
            refine gt_14_1 (pc := 49) C u_4_4 dX7_goBack_49 ?_
            refine v_iload_n (pc := 52) C 2 rfl rfl dX7_goBack_52 ?_
            refine v_aload_n (pc := 53) C 0 rfl rfl dX7_goBack_53 ?_
            refine gt_14_4 (pc := 54) C u_4_6 dX7_goBack_54 ?_
            refine v_sipush (pc := 57) C rfl dX7_goBack_57 ?_
            refine v_iload_n (pc := 60) C 1 rfl rfl dX7_goBack_60 ?_
            refine v_imul (pc := 61) C dX7_goBack_61 ?_
            refine v_iload_n (pc := 62) C 2 rfl rfl dX7_goBack_62 ?_
            refine v_iadd (pc := 63) C dX7_goBack_63 ?_
            refine al_17 (pc := 64) C ⟨by (first | assumption | omega | (unfold rg; omega)), by (first | assumption | omega | (unfold rg; omega))⟩ dX7_goBack_64 (svM (t0 g) 17 0 0 (154 * a + i)) (by rw [gbM_f _ _ _ _ (by decide)]) ?_
            refine as_15 (pc := 65) C ⟨by (first | assumption | omega | (unfold rg; omega)), by (first | assumption | omega | (unfold rg; omega))⟩ dX7_goBack_65 ?_
            refine v_iinc (pc := 66) C 2 [(2, .int (iI (i + 1))), (0, .ref (adr L 14 0 0)), (1, .int (iI a))] rfl (by decide) rfl dX7_goBack_66 ?_
            refine v_goto (pc := 69) C 41 (by decide) dX7_goBack_69 ?_
            refine v_lsub [1, 2, 0] rfl ?_
            refine v_st (g2 := gbM (svM (t0 g)) 17 (154 * a) (i + 1)) C (by exact gbM_s _ _ _ _ hi.1) ?_
            exact ih41 (i + 1) (by omega) (by omega)
      refine v_lsub [1, 2, 0] rfl ?_
      refine v_st (g2 := gbM (svM (t0 g)) 17 (154 * a) 0) C (by exact (gbM_0 _ _ _).symm) ?_
      exact lb41 _ 0 (by omega) (Nat.lt_succ_self _)
    · skip
      refine v_aload_n (pc := 29) C 0 rfl rfl dX7_goBack_29 ?_
      refine v_iconst (pc := 30) C dX7_goBack_30 ?_
      refine v_calliV (pc := 31) C cw_RX7_40 rcv_14 (ct_X7_fails l L (t0 g) 2 ) ⟨Nat.le_of_ble_eq_true rfl, Nat.le_of_ble_eq_true rfl⟩ rfl (Nat.le_of_ble_eq_true rfl) ⟨Nat.le_of_ble_eq_true rfl, Nat.le_of_ble_eq_true rfl⟩ rfl dX7_goBack_31 (fun r9 u9 hP_3 => ?_)
      obtain ⟨hP_3, hP_3b⟩ := hP_3
      rw [hP_3, hP_3b]
      clear hP_3 hP_3b r9 u9
      exact v_iret (pc := 34) C hr hlk (by first | exact ⟨_, rfl, Or.inl ⟨by assumption, rfl, rfl⟩⟩ | exact ⟨_, rfl, Or.inr (Or.inl ⟨by assumption, by assumption, rfl, rfl⟩)⟩ | exact ⟨_, rfl, Or.inr (Or.inr ⟨by assumption, by assumption, rfl, rfl⟩)⟩ | exact ⟨_, rfl, Or.inr ⟨by assumption, rfl, rfl⟩⟩) dX7_goBack_34
  · skip
    have h11c := z1_nef h11
    refine v_aload_n (pc := 14) C 0 rfl rfl dX7_goBack_14 ?_
    refine v_iconst (pc := 15) C dX7_goBack_15 ?_
    refine v_calliV (pc := 16) C cw_RX7_40 rcv_14 (ct_X7_fails l L (t0 g) 1 ) ⟨Nat.le_of_ble_eq_true rfl, Nat.le_of_ble_eq_true rfl⟩ rfl (Nat.le_of_ble_eq_true rfl) ⟨Nat.le_of_ble_eq_true rfl, Nat.le_of_ble_eq_true rfl⟩ rfl dX7_goBack_16 (fun r9 u9 hP_4 => ?_)
    obtain ⟨hP_4, hP_4b⟩ := hP_4
    rw [hP_4, hP_4b]
    clear hP_4 hP_4b r9 u9
    exact v_iret (pc := 19) C hr hlk (by first | exact ⟨_, rfl, Or.inl ⟨by assumption, rfl, rfl⟩⟩ | exact ⟨_, rfl, Or.inr (Or.inl ⟨by assumption, by assumption, rfl, rfl⟩)⟩ | exact ⟨_, rfl, Or.inr (Or.inr ⟨by assumption, by assumption, rfl, rfl⟩)⟩ | exact ⟨_, rfl, Or.inr ⟨by assumption, rfl, rfl⟩⟩) dX7_goBack_19
set_option maxHeartbeats 4000000 in
set_option maxRecDepth 100000 in
theorem ct_X7_undo (l : Launch) (L : Lay) (g : St) (h3 : 0 ≤ g 14 0 0 3 ∧ g 14 0 0 3 ≤ 6) : Met l yX7_undo (.code yX7_undo cX7_undo 2 (some .int) :: wsL_law) { frames := 1, cells := 0, slots := 0, locals := 21 } (va_Pc [.ref (adr L 14 0 0)] (HS L g)) (va_Qi (fun (r9 : Int32) (u : St) => ∃ z : Int, r9 = iI z ∧ ((¬ g 14 0 0 3 ≠ 0 ∧ u = er g 1 ∧ z = 0) ∨ (g 14 0 0 3 ≠ 0 ∧ u = gbM (up (t0 g) 14 0 0 3 (g 14 0 0 3 - 1)) 16 ((g 14 0 0 3 - 1) * 154) 154 ∧ z = g 14 0 0 3 - 1))) (fun u t => HS L u t) (Af L)) 0 0 (Af L) := by
  refine ct_mk (by decide +kernel) (Nat.le_of_ble_eq_true rfl) ?_
  intro pp ee ss mm bel mth cx C hr hlk
  show V pp l ee { frames := 1, cells := 0, slots := 0, locals := 21 } ss mm ([.ref (adr L 14 0 0)]).toArray bel mth cx 2 L (HH L g) 0 0 _ 0 [(0, .ref (adr L 14 0 0))] []
  refine v_aload_n (pc := 0) C 0 rfl rfl dX7_undo_0 ?_
  refine v_iconst (pc := 1) C dX7_undo_1 ?_
  refine pt_14_0 (pc := 2) C u_8_10 dX7_undo_2 ?_
  refine v_st (g2 := t0 g) C (rfl) ?_
  refine v_aload_n (pc := 5) C 0 rfl rfl dX7_undo_5 ?_
  refine gt_14_3 (pc := 6) C u_9_1 dX7_undo_6 (g 14 0 0 3) (up_i (by decide)) ?_
  refine v_if_ne (pc := 9) C 18 ⟨by (first | assumption | omega | (unfold rg; omega)), by (first | assumption | omega | (unfold rg; omega))⟩ (by decide) dX7_undo_9 (fun h9 => ?_) (fun h9 => ?_)
  · skip
    refine v_aload_n (pc := 18) C 0 rfl rfl dX7_undo_18 ?_
    refine v_dup (pc := 19) C rfl dX7_undo_19 ?_
    refine gt_14_3 (pc := 20) C u_9_1 dX7_undo_20 (g 14 0 0 3) (up_i (by decide)) ?_
    refine v_iconst (pc := 23) C dX7_undo_23 ?_
    refine v_isub (pc := 24) C dX7_undo_24 ?_
    refine pt_14_3 (pc := 25) C u_9_1 dX7_undo_25 ?_
    refine v_iconst (pc := 28) C dX7_undo_28 ?_
    refine v_istore_n (pc := 29) C [(1, .int (iI 0)), (0, .ref (adr L 14 0 0))] rfl (by decide) rfl dX7_undo_29 ?_
    have lb30 : ∀ (n9 : Nat) (i : Int), (0 ≤ i ∧ i ≤ 154) → (154 - i).toNat < n9 → V pp l ee { frames := 1, cells := 0, slots := 0, locals := 21 } ss mm ([.ref (adr L 14 0 0)]).toArray bel mth cx 2 L (HH L (gbM (up (t0 g) 14 0 0 3 (g 14 0 0 3 - 1)) 16 ((g 14 0 0 3 - 1) * 154) i)) 0 0 (MQ bel (va_Qi (fun (r9 : Int32) (u : St) => ∃ z : Int, r9 = iI z ∧ ((¬ g 14 0 0 3 ≠ 0 ∧ u = er g 1 ∧ z = 0) ∨ (g 14 0 0 3 ≠ 0 ∧ u = gbM (up (t0 g) 14 0 0 3 (g 14 0 0 3 - 1)) 16 ((g 14 0 0 3 - 1) * 154) 154 ∧ z = g 14 0 0 3 - 1))) (fun u t => HS L u t) (Af L)) ([.ref (adr L 14 0 0)]).toArray ss 0 0 (Af L)) 30 [(0, .ref (adr L 14 0 0)), (1, .int (iI i))] [] := by
      intro n9
      induction n9 with
      | zero => intro i hi hm9; exact absurd hm9 (Nat.not_lt_zero _)
      | succ n9 ih9 =>
        intro i hi hm9
        have ih30 := ih9
        refine v_iload_n (pc := 30) C 1 rfl rfl dX7_undo_30 ?_
        refine v_sipush (pc := 31) C rfl dX7_undo_31 ?_
        refine v_icmp_ge (pc := 34) C 64 ⟨by (first | assumption | omega | (unfold rg; omega)), by (first | assumption | omega | (unfold rg; omega))⟩ ⟨by (first | assumption | omega | (unfold rg; omega)), by (first | assumption | omega | (unfold rg; omega))⟩ (by decide) dX7_undo_34 (fun h34 => ?_) (fun h34 => ?_)
        · skip
          refine v_st (g2 := gbM (up (t0 g) 14 0 0 3 (g 14 0 0 3 - 1)) 16 ((g 14 0 0 3 - 1) * 154) 154) C (by rw [show i = 154 by omega]) ?_
          refine v_aload_n (pc := 64) C 0 rfl rfl dX7_undo_64 ?_
          refine gt_14_3 (pc := 65) C u_9_1 dX7_undo_65 (g 14 0 0 3 - 1) (by rw [gbM_f _ _ _ _ (by decide), up_s]) ?_
          exact v_iret (pc := 68) C hr hlk (by first | exact ⟨_, rfl, Or.inl ⟨by assumption, rfl, rfl⟩⟩ | exact ⟨_, rfl, Or.inr (Or.inl ⟨by assumption, by assumption, rfl, rfl⟩)⟩ | exact ⟨_, rfl, Or.inr (Or.inr ⟨by assumption, by assumption, rfl, rfl⟩)⟩ | exact ⟨_, rfl, Or.inr ⟨by assumption, rfl, rfl⟩⟩) dX7_undo_68
        · skip
          refine v_aload_n (pc := 37) C 0 rfl rfl dX7_undo_37 ?_
          refine gt_14_1 (pc := 38) C u_4_4 dX7_undo_38 ?_
          refine v_iload_n (pc := 41) C 1 rfl rfl dX7_undo_41 ?_
          refine v_aload_n (pc := 42) C 0 rfl rfl dX7_undo_42 ?_
          refine gt_14_2 (pc := 43) C u_4_5 dX7_undo_43 ?_
          refine v_aload_n (pc := 46) C 0 rfl rfl dX7_undo_46 ?_
          refine gt_14_3 (pc := 47) C u_9_1 dX7_undo_47 (g 14 0 0 3 - 1) (by rw [gbM_f _ _ _ _ (by decide), up_s]) ?_
          refine v_sipush (pc := 50) C rfl dX7_undo_50 ?_
          refine v_imul (pc := 53) C dX7_undo_53 ?_
          refine v_iload_n (pc := 54) C 1 rfl rfl dX7_undo_54 ?_
          refine v_iadd (pc := 55) C dX7_undo_55 ?_
          refine al_16 (pc := 56) C ⟨by (first | assumption | omega | (unfold rg; omega)), by (first | assumption | omega | (unfold rg; omega))⟩ dX7_undo_56 (up (t0 g) 14 0 0 3 (g 14 0 0 3 - 1) 16 0 0 ((g 14 0 0 3 - 1) * 154 + i)) (by rw [gbM_f _ _ _ _ (by decide)]) ?_
          refine as_15 (pc := 57) C ⟨by (first | assumption | omega | (unfold rg; omega)), by (first | assumption | omega | (unfold rg; omega))⟩ dX7_undo_57 ?_
          refine v_iinc (pc := 58) C 1 [(1, .int (iI (i + 1))), (0, .ref (adr L 14 0 0))] rfl (by decide) rfl dX7_undo_58 ?_
          refine v_goto (pc := 61) C 30 (by decide) dX7_undo_61 ?_
          refine v_lsub [1, 0] rfl ?_
          refine v_st (g2 := gbM (up (t0 g) 14 0 0 3 (g 14 0 0 3 - 1)) 16 ((g 14 0 0 3 - 1) * 154) (i + 1)) C (by exact gbM_s _ _ _ _ hi.1) ?_
          exact ih30 (i + 1) (by omega) (by omega)
    refine v_lsub [1, 0] rfl ?_
    refine v_st (g2 := gbM (up (t0 g) 14 0 0 3 (g 14 0 0 3 - 1)) 16 ((g 14 0 0 3 - 1) * 154) 0) C (by exact (gbM_0 _ _ _).symm) ?_
    exact lb30 _ 0 (by omega) (Nat.lt_succ_self _)
  · skip
    refine v_aload_n (pc := 12) C 0 rfl rfl dX7_undo_12 ?_
    refine v_iconst (pc := 13) C dX7_undo_13 ?_
    refine v_calliV (pc := 14) C cw_RX7_40 rcv_14 (ct_X7_fails l L (t0 g) 1 ) ⟨Nat.le_of_ble_eq_true rfl, Nat.le_of_ble_eq_true rfl⟩ rfl (Nat.le_of_ble_eq_true rfl) ⟨Nat.le_of_ble_eq_true rfl, Nat.le_of_ble_eq_true rfl⟩ rfl dX7_undo_14 (fun r9 u9 hP_1 => ?_)
    obtain ⟨hP_1, hP_1b⟩ := hP_1
    rw [hP_1, hP_1b]
    clear hP_1 hP_1b r9 u9
    exact v_iret (pc := 17) C hr hlk (by first | exact ⟨_, rfl, Or.inl ⟨by assumption, rfl, rfl⟩⟩ | exact ⟨_, rfl, Or.inr (Or.inl ⟨by assumption, by assumption, rfl, rfl⟩)⟩ | exact ⟨_, rfl, Or.inr (Or.inr ⟨by assumption, by assumption, rfl, rfl⟩)⟩ | exact ⟨_, rfl, Or.inr ⟨by assumption, rfl, rfl⟩⟩) dX7_undo_17
