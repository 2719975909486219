/-! the reference: a call, an echo back, the echoes that are left -/
theorem ad_lo {g : St} {p w y x : Int} (hn : 0 ≤ g 15 0 0 9) (hx : x < 34) (h9 : x ≠ 9) : adM g p w y 15 0 0 x = g 15 0 0 x := by
  unfold adM; repeat rw [up_i (by omega)]
theorem ad_9 {g : St} {p w y : Int} : adM g p w y 15 0 0 9 = g 15 0 0 9 + 1 := by unfold adM; rw [up_s]
theorem ad_e {g : St} {p w y x : Int} (h0 : 34 ≤ x) (hx : x < 34 + 5 * g 15 0 0 9) : adM g p w y 15 0 0 x = g 15 0 0 x := by
  unfold adM; repeat rw [up_i (by omega)]
theorem ad_f {g : St} {p w y : Int} {f : Nat} (h : f ≠ 15) : adM g p w y f = g f := by
  unfold adM; repeat rw [up_ff h]
theorem ad_n {g : St} {p w y : Int} (hn : 0 ≤ g 15 0 0 9) : adM g p w y 15 0 0 (34 + 5 * g 15 0 0 9 + 0) = p ∧ adM g p w y 15 0 0 (34 + 5 * g 15 0 0 9 + 1) = g 15 0 0 (10 + 6 * p + 0) ∧ adM g p w y 15 0 0 (34 + 5 * g 15 0 0 9 + 2) = w ∧ adM g p w y 15 0 0 (34 + 5 * g 15 0 0 9 + 3) = g 15 0 0 3 + mDl g (g 15 0 0 (10 + 6 * p + 0)) y ∧ adM g p w y 15 0 0 (34 + 5 * g 15 0 0 9 + 4) = y := by
  unfold adM
  refine ⟨?_, ?_, ?_, ?_, ?_⟩ <;> (repeat rw [up_i (by omega)]) <;> rw [up_s]
theorem wm_ad {g : St} {p w y : Int} (h : wm (g 15 0 0) 1) (hp : 0 ≤ p ∧ p < 4) (hw : 0 ≤ w ∧ w ≤ 9) (hy : 0 ≤ y ∧ y ≤ 1) (hn : g 15 0 0 9 < 24) : wm (adM g p w y 15 0 0) 1 := by
  obtain ⟨mS0, mS1, mS2, mB0, mB1, mB2, mCl, mN, mPl, mEc⟩ := id h
  have lo : ∀ x : Int, x < 34 → x ≠ 9 → adM g p w y 15 0 0 x = g 15 0 0 x := fun x hx h9 => ad_lo mN.1 hx h9
  have hpl := mPl p hp.1 hp.2
  have hd := mDl_in (w := y) h hpl
  unfold wm okM
  rw [lo 0 (by decide) (by decide), lo 1 (by decide) (by decide), lo 2 (by decide) (by decide), lo 3 (by decide) (by decide), lo 4 (by decide) (by decide), lo 5 (by decide) (by decide), lo 6 (by decide) (by decide), ad_9]
  refine ⟨mS0, mS1, mS2, mB0, mB1, mB2, mCl, by omega, fun q h0 h4 => by rw [lo (10 + 6 * q + 0) (by omega) (by omega)]; exact mPl q h0 h4, fun e h0 hl => ?_⟩
  by_cases he : e = g 15 0 0 9
  · subst he
    obtain ⟨e0, e1, e2, e3, e4⟩ := ad_n (p := p) (w := w) (y := y) mN.1
    rw [e0, e1, e2, e3, e4]
    omega
  · have := mEc e h0 (by omega)
    unfold okM at this
    rw [ad_e (by omega) (by omega), ad_e (by omega) (by omega), ad_e (by omega) (by omega), ad_e (by omega) (by omega), ad_e (by omega) (by omega)]
    exact this
def dcA (g : St) (p w : Int) : St := adM (adM g p w 0) p w 1
def dcG (g : St) (p w : Int) : St := up (up (dcA g p w) 15 0 0 8 (g 15 0 0 8 + 2)) 15 0 0 (10 + 6 * p + 2) (g 15 0 0 (10 + 6 * p + 2) + 1)
def dcM (g : St) (p w : Int) : St := if 6 < mUw g p + 2 then up g 15 0 0 7 (g 15 0 0 7 + 1) else dcG g p w
def dcR (g : St) (p : Int) : Int := if 6 < mUw g p + 2 then -1 else if mD1 g p 0 < mD1 g p 1 then mD1 g p 0 else mD1 g p 1
theorem dcA_lo {g : St} {p w x : Int} (hn : 0 ≤ g 15 0 0 9) (hx : x < 34) (h9 : x ≠ 9) : dcA g p w 15 0 0 x = g 15 0 0 x := by
  unfold dcA; rw [ad_lo (by rw [ad_9]; omega) hx h9, ad_lo hn hx h9]
theorem dcG_lo {g : St} {p w x : Int} (hp : 0 ≤ p ∧ p < 4) (hn : 0 ≤ g 15 0 0 9) (hx : x < 34) (h9 : x ≠ 9) (h8 : x ≠ 8) (h2 : x ≠ 10 + 6 * p + 2) : dcG g p w 15 0 0 x = g 15 0 0 x := by
  unfold dcG; rw [up_i h2, up_i h8, dcA_lo hn hx h9]
/-- an echo back -/
abbrev pl1 (g : St) (e : Int) : Int := g 15 0 0 (34 + 5 * e + 0)
def cbK (g : St) (e a : Int) : Int := if a = 0 then 4 else if g 15 0 0 (10 + 6 * g 15 0 0 (34 + 5 * e + 0) + 0) = g 15 0 0 (34 + 5 * e + 1) then 3 else 5
def cb1 (g : St) (e a : Int) : St := up g 15 0 0 (10 + 6 * g 15 0 0 (34 + 5 * e + 0) + cbK g e a) (g 15 0 0 (10 + 6 * g 15 0 0 (34 + 5 * e + 0) + cbK g e a) + 1)
def cb2 (g : St) (e a : Int) : St := up (cb1 g e a) 15 0 0 (10 + 6 * g 15 0 0 (34 + 5 * e + 0) + 1) (g 15 0 0 (10 + 6 * g 15 0 0 (34 + 5 * e + 0) + 1) + 1)
def cbG (g : St) (e a : Int) : St := if cbK g e a = 3 ∧ g 15 0 0 4 = g 15 0 0 (34 + 5 * e + 1) then up (up (cb2 g e a) 15 0 0 5 (fwS (g 15 0 0 5) (g 15 0 0 (34 + 5 * e + 2)))) 15 0 0 6 (fwR (g 15 0 0 6) (g 15 0 0 (34 + 5 * e + 2))) else cb1 g e a
def cbR (g : St) (e a : Int) : Int := if cbK g e a = 3 ∧ g 15 0 0 4 = g 15 0 0 (34 + 5 * e + 1) then 1 else 0
theorem cbK_in (g : St) (e a : Int) : 3 ≤ cbK g e a ∧ cbK g e a ≤ 5 := by unfold cbK; (repeat' split) <;> omega
theorem cb1_i {g : St} {e a x : Int} (h : x ≠ 10 + 6 * g 15 0 0 (34 + 5 * e + 0) + cbK g e a) : cb1 g e a 15 0 0 x = g 15 0 0 x := by unfold cb1; rw [up_i h]
theorem cb2_i {g : St} {e a x : Int} (h : x ≠ 10 + 6 * g 15 0 0 (34 + 5 * e + 0) + cbK g e a) (h1 : x ≠ 10 + 6 * g 15 0 0 (34 + 5 * e + 0) + 1) : cb2 g e a 15 0 0 x = g 15 0 0 x := by unfold cb2; rw [up_i h1, cb1_i h]

/-- the echoes that are left -/
def cp5 (g : St) (a b n : Int) : St := fun f k j x => if f = 15 ∧ k = 0 ∧ j = 0 ∧ (34 + 5 * a ≤ x ∧ x < 34 + 5 * a + n) then g 15 0 0 (x - 5 * a + 5 * b) else g f k j x
theorem cp5_0 (g : St) (a b : Int) : cp5 g a b 0 = g := by funext f k j x; simp only [cp5]; rw [if_neg (by omega)]
theorem cp5_s (g : St) (a b i : Int) (h : 0 ≤ i) : up (cp5 g a b i) 15 0 0 (34 + 5 * a + i) (g 15 0 0 (34 + 5 * b + i)) = cp5 g a b (i + 1) := by
  funext f k j x; simp only [cp5, up]
  by_cases hx : x = 34 + 5 * a + i
  · subst hx; rw [show 34 + 5 * a + i - 5 * a + 5 * b = 34 + 5 * b + i by omega]; grind
  · grind
theorem cp5_o {g : St} {a b i x : Int} (h : x < 34 + 5 * a ∨ 34 + 5 * a + i ≤ x) : cp5 g a b i 15 0 0 x = g 15 0 0 x := by
  simp only [cp5]; rw [if_neg (by omega)]
theorem cp5_n {g : St} {a b i x : Int} (h : 0 ≤ x ∧ x < i) : cp5 g a b i 15 0 0 (34 + 5 * a + x) = g 15 0 0 (34 + 5 * b + x) := by
  unfold cp5; rw [if_pos ⟨rfl, rfl, rfl, by omega, by omega⟩, show 34 + 5 * a + x - 5 * a + 5 * b = 34 + 5 * b + x by omega]
theorem okM_of {s t : Int → Int} {d e e2 : Int} (h : okM s d e) (h0 : t 0 = s 0) (h3 : t 3 = s 3) (hx : ∀ x, 0 ≤ x → x < 5 → t (34 + 5 * e2 + x) = s (34 + 5 * e + x)) : okM t d e2 := by
  unfold okM at *
  rw [h0, h3, hx 0 (by decide) (by decide), hx 1 (by decide) (by decide), hx 2 (by decide) (by decide), hx 3 (by decide) (by decide), hx 4 (by decide) (by decide)]
  exact h
def kpM (g : St) (c : Int) : Nat → Int
  | 0 => 0
  | n + 1 => if c < g 15 0 0 (34 + 5 * (n : Int) + 3) then kpM g c n + 1 else kpM g c n
def dpM (g : St) (c : Int) : Nat → St
  | 0 => g
  | n + 1 => if c < g 15 0 0 (34 + 5 * (n : Int) + 3) then cp5 (dpM g c n) (kpM g c n) n 5 else dpM g c n
theorem kpM_in (g : St) (c : Int) : ∀ n : Nat, 0 ≤ kpM g c n ∧ kpM g c n ≤ n
  | 0 => by simp [kpM]
  | n + 1 => by have ih := kpM_in g c n; rw [kpM]; split <;> omega
theorem dpM_lo (g : St) (c : Int) {x : Int} (h : x < 34) : ∀ n : Nat, dpM g c n 15 0 0 x = g 15 0 0 x
  | 0 => rfl
  | n + 1 => by
    have hk := kpM_in g c n
    rw [dpM]; split
    · rw [cp5_o (by omega)]; exact dpM_lo g c h n
    · exact dpM_lo g c h n
theorem dpM_hi (g : St) (c : Int) {x : Int} : ∀ n : Nat, 34 + 5 * kpM g c n ≤ x → dpM g c n 15 0 0 x = g 15 0 0 x
  | 0, _ => rfl
  | n + 1, h => by
    rw [kpM] at h
    rw [dpM]; split
    · rename_i hc; rw [if_pos hc] at h; rw [cp5_o (by omega)]; exact dpM_hi g c n (by omega)
    · rename_i hc; rw [if_neg hc] at h; exact dpM_hi g c n h
theorem dpM_f (g : St) (c : Int) {f : Nat} (h : f ≠ 15) : ∀ n : Nat, dpM g c n f = g f
  | 0 => rfl
  | n + 1 => by
    rw [dpM, ← dpM_f g c h n]; split
    · funext k j x; simp only [cp5]; rw [if_neg (by simp [h])]
    · rfl
def ddG (g : St) : St := up (dpM g (g 15 0 0 3) (g 15 0 0 9).toNat) 15 0 0 9 (kpM g (g 15 0 0 3) (g 15 0 0 9).toNat)
theorem cp5_se (g : St) (n : Int) : cp5 g n n 5 = g := by
  funext f k j x; simp only [cp5]; split
  · rename_i h; obtain ⟨rfl, rfl, rfl, -⟩ := h; congr 1; omega
  · rfl
theorem wm_dp (g : St) (c : Int) (hc : c = g 15 0 0 3) (h : wm (g 15 0 0) 0) : ∀ n : Nat, (n : Int) ≤ g 15 0 0 9 → ∀ e, 0 ≤ e → e < kpM g c n → okM (dpM g c n 15 0 0) 1 e
  | 0, _, e, h0, h1 => by simp only [kpM] at h1; omega
  | n + 1, hn, e, h0, h1 => by
    have ih := wm_dp g c hc h n (by omega) e h0
    have hk := kpM_in g c n
    rw [kpM] at h1
    rw [dpM]; split
    · rename_i hd
      rw [if_pos hd] at h1
      by_cases he : e = kpM g c n
      · have ho := h.2.2.2.2.2.2.2.2.2 n (by omega) (by omega)
        subst he
        have ho1 : okM (g 15 0 0) 1 n := by
          unfold okM at *; omega
        refine okM_of ho1 (by rw [cp5_o (by omega), dpM_lo _ _ (by decide)]) (by rw [cp5_o (by omega), dpM_lo _ _ (by decide)]) (fun x h0 h5 => by rw [cp5_n ⟨h0, h5⟩, dpM_hi _ _ _ (by omega)])
      · refine okM_of (ih (by omega)) (by rw [cp5_o (by omega)]) (by rw [cp5_o (by omega)]) (fun x h0 h5 => by rw [cp5_o (by omega)])
    · rename_i hd
      rw [if_neg hd] at h1
      exact ih h1
theorem wm_dd {g : St} (h : wm (g 15 0 0) 0) : wm (ddG g 15 0 0) 1 := by
  have hw := wm_dp g (g 15 0 0 3) rfl h (g 15 0 0 9).toNat (by have := h.2.2.2.2.2.2.2.1; omega)
  have hk := kpM_in g (g 15 0 0 3) (g 15 0 0 9).toNat
  obtain ⟨mS0, mS1, mS2, mB0, mB1, mB2, mCl, mN, mPl, mEc⟩ := id h
  have lo : ∀ x : Int, x < 34 → x ≠ 9 → ddG g 15 0 0 x = g 15 0 0 x := fun x hx h9 => by unfold ddG; rw [up_i h9, dpM_lo _ _ hx]
  have l9 : ddG g 15 0 0 9 = kpM g (g 15 0 0 3) (g 15 0 0 9).toNat := by unfold ddG; rw [up_s]
  unfold wm
  rw [lo 0 (by decide) (by decide), lo 1 (by decide) (by decide), lo 2 (by decide) (by decide), lo 3 (by decide) (by decide), lo 4 (by decide) (by decide), lo 5 (by decide) (by decide), lo 6 (by decide) (by decide), l9]
  refine ⟨mS0, mS1, mS2, mB0, mB1, mB2, mCl, by omega, fun q h0 h4 => by rw [lo _ (by omega) (by omega)]; exact mPl q h0 h4, fun e h0 hl => ?_⟩
  refine okM_of (hw e h0 hl) (by rw [lo 0 (by decide) (by decide), dpM_lo _ _ (by decide)]) (by rw [lo 3 (by decide) (by decide), dpM_lo _ _ (by decide)]) (fun x h0 h5 => by unfold ddG; rw [up_i (by omega)])

theorem cpX {g : St} {a b x : Int} (hx : 0 ≤ x) (h : a ≤ b) (h5 : x < 5) : cp5 g a b x 15 0 0 (34 + 5 * b + x) = g 15 0 0 (34 + 5 * b + x) := cp5_o (by omega)

theorem cw_RX7_63 : CW RX7 63 RX7 yX7_addEcho cX7_addEcho 6 none 3 := ⟨u_9_14, u_9_15, u_9_16, u_1_5, u_9_17, by decide +kernel⟩
theorem cw_RX7_67 : CW RX7 67 RX7 yX7_sendOn cX7_sendOn 3 none 1 := ⟨u_16_11, u_16_12, u_16_13, u_1_5, u_16_14, by decide +kernel⟩
set_option maxHeartbeats 4000000 in
set_option maxRecDepth 100000 in
theorem ct_X7_doesCall (l : Launch) (L : Lay) (g : St) (p w : Int) (hm : wm (g 15 0 0) 1) (hp : 0 ≤ p ∧ p < 4) (hw : 0 ≤ w ∧ w ≤ 9) (hn6 : mUw g p + 2 ≤ 6 → g 15 0 0 9 + 2 ≤ 24) : Met l yX7_doesCall (.code yX7_doesCall cX7_doesCall 5 (some .int) :: wsL_law) { frames := 2, cells := 0, slots := 0, locals := 49 } (va_Pc [.ref (adr L 14 0 0), .int (iI p), .int (iI w)] (HS L g)) (va_Qi (fun (r9 : Int32) (u9 : St) => r9 = iI (dcR g p) ∧ u9 = (dcM g p w)) (fun u t => HS L u t) (Af L)) 0 0 (Af L) := by
  refine ct_mk (by decide +kernel) (Nat.le_of_ble_eq_true rfl) ?_
  intro pp ee ss mm bel mth cx C hr hlk
  show V pp l ee { frames := 2, cells := 0, slots := 0, locals := 49 } ss mm ([.ref (adr L 14 0 0), .int (iI p), .int (iI w)]).toArray bel mth cx 5 L (HH L g) 0 0 _ 0 [(0, .ref (adr L 14 0 0)), (1, .int (iI p)), (2, .int (iI w))] []
  obtain ⟨mS0, mS1, mS2, mB0, mB1, mB2, mCl, mN, mPl, mEc⟩ := id hm
  have hpl := mPl p hp.1 hp.2
  have huw := mUw_in g p
  have ht0 : 1 ≤ mD1 g p 0 ∧ mD1 g p 0 ≤ 100 := mDl_in hm hpl
  have ht1 : 1 ≤ mD1 g p 1 ∧ mD1 g p 1 ≤ 100 := mDl_in hm hpl
  refine v_aload_n (pc := 0) C 0 rfl rfl dX7_doesCall_0 ?_
  refine v_iload_n (pc := 1) C 1 rfl rfl dX7_doesCall_1 ?_
  refine v_calliV (pc := 2) C cw_RX7_60 rcv_14 (ct_X7_underWay l L g 1 p (by first | assumption | omega) (by first | assumption | omega) (by first | assumption | omega)) ⟨Nat.le_of_ble_eq_true rfl, Nat.le_of_ble_eq_true rfl⟩ rfl (Nat.le_of_ble_eq_true rfl) ⟨Nat.le_of_ble_eq_true rfl, Nat.le_of_ble_eq_true rfl⟩ rfl dX7_doesCall_2 (fun r9 u9 hP_1 => ?_)
  obtain ⟨hP_1, hP_1b⟩ := hP_1
  rw [hP_1, hP_1b]
  clear hP_1 hP_1b r9 u9
  refine v_iconst (pc := 5) C dX7_doesCall_5 ?_
  refine v_iadd (pc := 6) C dX7_doesCall_6 ?_
  refine v_bipush (pc := 7) C rfl dX7_doesCall_7 ?_
  refine v_icmp_le (pc := 9) C 25 ⟨by (first | assumption | omega), by (first | assumption | omega)⟩ ⟨by (first | assumption | omega), by (first | assumption | omega)⟩ (by decide) dX7_doesCall_9 (fun h9 => ?_) (fun h9 => ?_)
  · skip
    have hn2 := hn6 (by omega)
    have hma := wm_ad hm hp hw (show (0 : Int) ≤ 0 ∧ (0 : Int) ≤ 1 by decide) (by omega)
    have e0 : dcG g p w 15 0 0 0 = g 15 0 0 0 := dcG_lo hp mN.1 (by omega) (by omega) (by omega) (by omega)
    have e1 : dcG g p w 15 0 0 1 = g 15 0 0 1 := dcG_lo hp mN.1 (by omega) (by omega) (by omega) (by omega)
    have e2 : dcG g p w 15 0 0 2 = g 15 0 0 2 := dcG_lo hp mN.1 (by omega) (by omega) (by omega) (by omega)
    have ep : dcG g p w 15 0 0 (10 + 6 * p + 0) = g 15 0 0 (10 + 6 * p + 0) := dcG_lo hp mN.1 (by omega) (by omega) (by omega) (by omega)
    have ed : ∀ x y, mDl (dcG g p w) x y = mDl g x y := fun x y => by (show dly (dcG g p w 15 0 0 0) (dcG g p w 15 0 0 1) (dcG g p w 15 0 0 2) x y = _; rw [e0, e1, e2])
    refine v_aload_n (pc := 25) C 0 rfl rfl dX7_doesCall_25 ?_
    refine v_iload_n (pc := 26) C 1 rfl rfl dX7_doesCall_26 ?_
    refine v_iload_n (pc := 27) C 2 rfl rfl dX7_doesCall_27 ?_
    refine v_iconst (pc := 28) C dX7_doesCall_28 ?_
    refine v_callvV (pc := 29) C cw_RX7_63 rcv_14 (ct_X7_addEcho l L g p w 0 (by first | assumption | omega) (by first | assumption | omega) (by first | assumption | omega) (by first | assumption | omega) (by first | assumption | omega)) ⟨Nat.le_of_ble_eq_true rfl, Nat.le_of_ble_eq_true rfl⟩ rfl (Nat.le_of_ble_eq_true rfl) ⟨Nat.le_of_ble_eq_true rfl, Nat.le_of_ble_eq_true rfl⟩ rfl dX7_doesCall_29 (fun u9 hP_2 => ?_)
    rw [hP_2]
    clear hP_2 u9
    refine v_aload_n (pc := 32) C 0 rfl rfl dX7_doesCall_32 ?_
    refine v_iload_n (pc := 33) C 1 rfl rfl dX7_doesCall_33 ?_
    refine v_iload_n (pc := 34) C 2 rfl rfl dX7_doesCall_34 ?_
    refine v_iconst (pc := 35) C dX7_doesCall_35 ?_
    refine v_callvV (pc := 36) C cw_RX7_63 rcv_14 (ct_X7_addEcho l L (adM g p w 0) p w 1 (by exact hma) (by first | assumption | omega) (by first | assumption | omega) (by first | assumption | omega) (by rw [ad_9]; omega)) ⟨Nat.le_of_ble_eq_true rfl, Nat.le_of_ble_eq_true rfl⟩ rfl (Nat.le_of_ble_eq_true rfl) ⟨Nat.le_of_ble_eq_true rfl, Nat.le_of_ble_eq_true rfl⟩ rfl dX7_doesCall_36 (fun u9 hP_3 => ?_)
    rw [hP_3]
    clear hP_3 u9
    refine v_st (g2 := dcA g p w) C (rfl) ?_
    refine v_aload_n (pc := 39) C 0 rfl rfl dX7_doesCall_39 ?_
    refine gt_14_1 (pc := 40) C u_4_4 dX7_doesCall_40 ?_
    refine v_bipush (pc := 43) C rfl dX7_doesCall_43 ?_
    refine v_dup2 (pc := 45) C rfl rfl dX7_doesCall_45 ?_
    refine al_15 (pc := 46) C ⟨by (first | assumption | omega), by (first | assumption | omega)⟩ dX7_doesCall_46 (g 15 0 0 8) (dcA_lo mN.1 (by omega) (by omega)) ?_
    refine v_iconst (pc := 47) C dX7_doesCall_47 ?_
    refine v_iadd (pc := 48) C dX7_doesCall_48 ?_
    refine as_15 (pc := 49) C ⟨by (first | assumption | omega), by (first | assumption | omega)⟩ dX7_doesCall_49 ?_
    refine v_aload_n (pc := 50) C 0 rfl rfl dX7_doesCall_50 ?_
    refine gt_14_1 (pc := 51) C u_4_4 dX7_doesCall_51 ?_
    refine v_bipush (pc := 54) C rfl dX7_doesCall_54 ?_
    refine v_bipush (pc := 56) C rfl dX7_doesCall_56 ?_
    refine v_iload_n (pc := 58) C 1 rfl rfl dX7_doesCall_58 ?_
    refine v_imul (pc := 59) C dX7_doesCall_59 ?_
    refine v_iadd (pc := 60) C dX7_doesCall_60 ?_
    refine v_iconst (pc := 61) C dX7_doesCall_61 ?_
    refine v_iadd (pc := 62) C dX7_doesCall_62 ?_
    refine v_dup2 (pc := 63) C rfl rfl dX7_doesCall_63 ?_
    refine al_15 (pc := 64) C ⟨by (first | assumption | omega), by (first | assumption | omega)⟩ dX7_doesCall_64 (g 15 0 0 (10 + 6 * p + 2)) (by rw [up_i (by omega), dcA_lo mN.1 (by omega) (by omega)]) ?_
    refine v_iconst (pc := 65) C dX7_doesCall_65 ?_
    refine v_iadd (pc := 66) C dX7_doesCall_66 ?_
    refine as_15 (pc := 67) C ⟨by (first | assumption | omega), by (first | assumption | omega)⟩ dX7_doesCall_67 ?_
    refine v_st (g2 := dcG g p w) C (rfl) ?_
    refine v_aload_n (pc := 68) C 0 rfl rfl dX7_doesCall_68 ?_
    refine v_aload_n (pc := 69) C 0 rfl rfl dX7_doesCall_69 ?_
    refine v_iload_n (pc := 70) C 1 rfl rfl dX7_doesCall_70 ?_
    refine v_iconst (pc := 71) C dX7_doesCall_71 ?_
    refine v_calliV (pc := 72) C cw_RX7_33 rcv_14 (ct_X7_ofPlayer l L (dcG g p w) p 0 (by first | assumption | omega) (by first | assumption | omega)) ⟨Nat.le_of_ble_eq_true rfl, Nat.le_of_ble_eq_true rfl⟩ rfl (Nat.le_of_ble_eq_true rfl) ⟨Nat.le_of_ble_eq_true rfl, Nat.le_of_ble_eq_true rfl⟩ rfl dX7_doesCall_72 (fun r9 u9 hP_4 => ?_)
    obtain ⟨hP_4, hP_4b⟩ := hP_4
    rw [hP_4, hP_4b]
    clear hP_4 hP_4b r9 u9
    refine v_iconst (pc := 75) C dX7_doesCall_75 ?_
    refine v_calliV (pc := 76) C cw_RX7_57 rcv_14 (ct_X7_delay l L (dcG g p w) ((dcG g p w) 15 0 0 (10 + 6 * p + 0)) 0 (by rw [e0]; exact mS0) (by rw [e1]; exact mS1) (by rw [e2]; exact mS2) (by rw [ep, e0]; exact hpl) (by first | assumption | omega)) ⟨Nat.le_of_ble_eq_true rfl, Nat.le_of_ble_eq_true rfl⟩ rfl (Nat.le_of_ble_eq_true rfl) ⟨Nat.le_of_ble_eq_true rfl, Nat.le_of_ble_eq_true rfl⟩ rfl dX7_doesCall_76 (fun r9 u9 hP_5 => ?_)
    obtain ⟨hP_5, hP_5b⟩ := hP_5
    rw [hP_5, hP_5b]
    clear hP_5 hP_5b r9 u9
    refine v_topi (b := mD1 g p 0) C (by rw [ed, ep]) ?_
    refine v_istore_n (pc := 79) C [(3, .int (iI (mD1 g p 0))), (0, .ref (adr L 14 0 0)), (1, .int (iI p)), (2, .int (iI w))] rfl (by decide) rfl dX7_doesCall_79 ?_
    refine v_aload_n (pc := 80) C 1 rfl rfl dX7_doesCall_80 ?_
    refine v_aload_n (pc := 81) C 1 rfl rfl dX7_doesCall_81 ?_
    refine v_iload_n (pc := 82) C 2 rfl rfl dX7_doesCall_82 ?_
    refine v_iconst (pc := 83) C dX7_doesCall_83 ?_
    refine v_calliV (pc := 84) C cw_RX7_33 rcv_14 (ct_X7_ofPlayer l L (dcG g p w) p 0 (by first | assumption | omega) (by first | assumption | omega)) ⟨Nat.le_of_ble_eq_true rfl, Nat.le_of_ble_eq_true rfl⟩ rfl (Nat.le_of_ble_eq_true rfl) ⟨Nat.le_of_ble_eq_true rfl, Nat.le_of_ble_eq_true rfl⟩ rfl dX7_doesCall_84 (fun r9 u9 hP_6 => ?_)
    obtain ⟨hP_6, hP_6b⟩ := hP_6
    rw [hP_6, hP_6b]
    clear hP_6 hP_6b r9 u9
    refine v_iconst (pc := 87) C dX7_doesCall_87 ?_
    refine v_calliV (pc := 88) C cw_RX7_57 rcv_14 (ct_X7_delay l L (dcG g p w) ((dcG g p w) 15 0 0 (10 + 6 * p + 0)) 1 (by rw [e0]; exact mS0) (by rw [e1]; exact mS1) (by rw [e2]; exact mS2) (by rw [ep, e0]; exact hpl) (by first | assumption | omega)) ⟨Nat.le_of_ble_eq_true rfl, Nat.le_of_ble_eq_true rfl⟩ rfl (Nat.le_of_ble_eq_true rfl) ⟨Nat.le_of_ble_eq_true rfl, Nat.le_of_ble_eq_true rfl⟩ rfl dX7_doesCall_88 (fun r9 u9 hP_7 => ?_)
    obtain ⟨hP_7, hP_7b⟩ := hP_7
    rw [hP_7, hP_7b]
    clear hP_7 hP_7b r9 u9
    refine v_topi (b := mD1 g p 1) C (by rw [ed, ep]) ?_
    refine v_istore (pc := 91) C [(4, .int (iI (mD1 g p 1))), (3, .int (iI (mD1 g p 0))), (0, .ref (adr L 14 0 0)), (1, .int (iI p)), (2, .int (iI w))] (by decide) rfl dX7_doesCall_91 ?_
    refine v_iload_n (pc := 93) C 1 rfl rfl dX7_doesCall_93 ?_
    refine v_iload (pc := 94) C 0 rfl dX7_doesCall_94 ?_
    refine v_icmp_ge (pc := 96) C 103 ⟨by (first | assumption | omega), by (first | assumption | omega)⟩ ⟨by (first | assumption | omega), by (first | assumption | omega)⟩ (by decide) dX7_doesCall_96 (fun h96 => ?_) (fun h96 => ?_)
    · skip
      refine v_iload (pc := 103) C 0 rfl dX7_doesCall_103 ?_
      exact v_iret (pc := 105) C hr hlk (⟨congrArg iI (by unfold dcR; (repeat' first | rfl | omega | rw [if_pos (by first | assumption | omega)] | rw [if_neg (by first | assumption | omega)])), by unfold dcM; first | rw [if_pos (by omega)] | rw [if_neg (by omega)]⟩) dX7_doesCall_105
    · skip
      refine v_iload_n (pc := 99) C 1 rfl rfl dX7_doesCall_99 ?_
      refine v_goto (pc := 100) C 105 (by decide) dX7_doesCall_100 ?_
      exact v_iret (pc := 105) C hr hlk (⟨congrArg iI (by unfold dcR; (repeat' first | rfl | omega | rw [if_pos (by first | assumption | omega)] | rw [if_neg (by first | assumption | omega)])), by unfold dcM; first | rw [if_pos (by omega)] | rw [if_neg (by omega)]⟩) dX7_doesCall_105
  · skip
    refine v_aload_n (pc := 12) C 0 rfl rfl dX7_doesCall_12 ?_
    refine gt_14_1 (pc := 13) C u_4_4 dX7_doesCall_13 ?_
    refine v_bipush (pc := 16) C rfl dX7_doesCall_16 ?_
    refine v_dup2 (pc := 18) C rfl rfl dX7_doesCall_18 ?_
    refine al_15 (pc := 19) C ⟨by (first | assumption | omega), by (first | assumption | omega)⟩ dX7_doesCall_19 (g 15 0 0 7) (rfl) ?_
    refine v_iconst (pc := 20) C dX7_doesCall_20 ?_
    refine v_iadd (pc := 21) C dX7_doesCall_21 ?_
    refine as_15 (pc := 22) C ⟨by (first | assumption | omega), by (first | assumption | omega)⟩ dX7_doesCall_22 ?_
    refine v_iconst (pc := 23) C dX7_doesCall_23 ?_
    exact v_iret (pc := 24) C hr hlk (⟨congrArg iI (by unfold dcR; (repeat' first | rfl | omega | rw [if_pos (by first | assumption | omega)] | rw [if_neg (by first | assumption | omega)])), by unfold dcM; first | rw [if_pos (by omega)] | rw [if_neg (by omega)]⟩) dX7_doesCall_24
set_option maxHeartbeats 4000000 in
set_option maxRecDepth 100000 in
theorem ct_X7_comesBack (l : Launch) (L : Lay) (g : St) (e a : Int) (hm : wm (g 15 0 0) 0) (he : 0 ≤ e ∧ e < g 15 0 0 9) (ha : 0 ≤ a ∧ a ≤ 1) : Met l yX7_comesBack (.code yX7_comesBack cX7_comesBack 6 (some .boolean) :: wsL_law) { frames := 1, cells := 0, slots := 0, locals := 22 } (va_Pc [.ref (adr L 14 0 0), .int (iI e), .int (iI a)] (HS L g)) (va_Qi (fun (r9 : Int32) (u9 : St) => r9 = iI (cbR g e a) ∧ u9 = (cbG g e a)) (fun u t => HS L u t) (Af L)) 0 0 (Af L) := by
  refine ct_mk (by decide +kernel) (Nat.le_of_ble_eq_true rfl) ?_
  intro pp ee ss mm bel mth cx C hr hlk
  show V pp l ee { frames := 1, cells := 0, slots := 0, locals := 22 } ss mm ([.ref (adr L 14 0 0), .int (iI e), .int (iI a)]).toArray bel mth cx 6 L (HH L g) 0 0 _ 0 [(0, .ref (adr L 14 0 0)), (1, .int (iI e)), (2, .int (iI a))] []
  obtain ⟨mS0, mS1, mS2, mB0, mB1, mB2, mCl, mN, mPl, mEc⟩ := id hm
  have hee := mEc e he.1 he.2
  unfold okM at hee
  have hpl := mPl _ hee.1.1 hee.1.2
  have hkk := cbK_in g e a
  refine v_aload_n (pc := 0) C 0 rfl rfl dX7_comesBack_0 ?_
  refine v_iload_n (pc := 1) C 1 rfl rfl dX7_comesBack_1 ?_
  refine v_iconst (pc := 2) C dX7_comesBack_2 ?_
  refine v_calliV (pc := 3) C cw_RX7_54 rcv_14 (ct_X7_ofEcho l L g e 0 (by first | assumption | omega) (by first | assumption | omega)) ⟨Nat.le_of_ble_eq_true rfl, Nat.le_of_ble_eq_true rfl⟩ rfl (Nat.le_of_ble_eq_true rfl) ⟨Nat.le_of_ble_eq_true rfl, Nat.le_of_ble_eq_true rfl⟩ rfl dX7_comesBack_3 (fun r9 u9 hP_1 => ?_)
  obtain ⟨hP_1, hP_1b⟩ := hP_1
  rw [hP_1, hP_1b]
  clear hP_1 hP_1b r9 u9
  refine v_istore_n (pc := 6) C [(3, .int (iI (g 15 0 0 (34 + 5 * e + 0)))), (0, .ref (adr L 14 0 0)), (1, .int (iI e)), (2, .int (iI a))] rfl (by decide) rfl dX7_comesBack_6 ?_
  refine v_aload_n (pc := 7) C 1 rfl rfl dX7_comesBack_7 ?_
  refine v_iload_n (pc := 8) C 0 rfl rfl dX7_comesBack_8 ?_
  refine v_iconst (pc := 9) C dX7_comesBack_9 ?_
  refine v_calliV (pc := 10) C cw_RX7_33 rcv_14 (ct_X7_ofPlayer l L g (g 15 0 0 (34 + 5 * e + 0)) 0 (by first | assumption | omega) (by first | assumption | omega)) ⟨Nat.le_of_ble_eq_true rfl, Nat.le_of_ble_eq_true rfl⟩ rfl (Nat.le_of_ble_eq_true rfl) ⟨Nat.le_of_ble_eq_true rfl, Nat.le_of_ble_eq_true rfl⟩ rfl dX7_comesBack_10 (fun r9 u9 hP_2 => ?_)
  obtain ⟨hP_2, hP_2b⟩ := hP_2
  rw [hP_2, hP_2b]
  clear hP_2 hP_2b r9 u9
  refine v_aload_n (pc := 13) C 1 rfl rfl dX7_comesBack_13 ?_
  refine v_iload_n (pc := 14) C 2 rfl rfl dX7_comesBack_14 ?_
  refine v_iconst (pc := 15) C dX7_comesBack_15 ?_
  refine v_calliV (pc := 16) C cw_RX7_54 rcv_14 (ct_X7_ofEcho l L g e 1 (by first | assumption | omega) (by first | assumption | omega)) ⟨Nat.le_of_ble_eq_true rfl, Nat.le_of_ble_eq_true rfl⟩ rfl (Nat.le_of_ble_eq_true rfl) ⟨Nat.le_of_ble_eq_true rfl, Nat.le_of_ble_eq_true rfl⟩ rfl dX7_comesBack_16 (fun r9 u9 hP_3 => ?_)
  obtain ⟨hP_3, hP_3b⟩ := hP_3
  rw [hP_3, hP_3b]
  clear hP_3 hP_3b r9 u9
  refine v_icmp_ne (pc := 19) C 26 ⟨by (first | assumption | omega), by (first | assumption | omega)⟩ ⟨by (first | assumption | omega), by (first | assumption | omega)⟩ (by decide) dX7_comesBack_19 (fun h19 => ?_) (fun h19 => ?_)
  · skip
    refine v_iconst (pc := 26) C dX7_comesBack_26 ?_
    refine v_istore (pc := 27) C [(4, .int (iI 0)), (3, .int (iI (g 15 0 0 (34 + 5 * e + 0)))), (0, .ref (adr L 14 0 0)), (1, .int (iI e)), (2, .int (iI a))] (by decide) rfl dX7_comesBack_27 ?_
    refine v_iload_n (pc := 29) C 4 rfl rfl dX7_comesBack_29 ?_
    refine v_if_ne (pc := 30) C 37 ⟨by (first | assumption | omega), by (first | assumption | omega)⟩ (by decide) dX7_comesBack_30 (fun h30 => ?_) (fun h30 => ?_)
    · skip
      refine v_iload (pc := 37) C 0 rfl dX7_comesBack_37 ?_
      refine v_if_eq (pc := 39) C 46 ⟨by (first | assumption | omega), by (first | assumption | omega)⟩ (by decide) dX7_comesBack_39 (fun h39 => ?_) (fun h39 => ?_)
      · skip
        refine v_iconst (pc := 46) C dX7_comesBack_46 ?_
        have hK : cbK g e a = 5 := by (unfold cbK; first | rw [if_pos (by omega)] | rw [if_neg (by omega), if_pos (by omega)] | rw [if_neg (by omega), if_neg (by omega)])
        refine v_istore (pc := 47) C [(5, .int (iI 5)), (4, .int (iI 0)), (3, .int (iI (g 15 0 0 (34 + 5 * e + 0)))), (0, .ref (adr L 14 0 0)), (1, .int (iI e)), (2, .int (iI a))] (by decide) rfl dX7_comesBack_47 ?_
        refine v_aload_n (pc := 49) C 3 rfl rfl dX7_comesBack_49 ?_
        refine gt_14_1 (pc := 50) C u_4_4 dX7_comesBack_50 ?_
        refine v_bipush (pc := 53) C rfl dX7_comesBack_53 ?_
        refine v_bipush (pc := 55) C rfl dX7_comesBack_55 ?_
        refine v_iload_n (pc := 57) C 2 rfl rfl dX7_comesBack_57 ?_
        refine v_imul (pc := 58) C dX7_comesBack_58 ?_
        refine v_iadd (pc := 59) C dX7_comesBack_59 ?_
        refine v_iload (pc := 60) C 0 rfl dX7_comesBack_60 ?_
        refine v_iadd (pc := 62) C dX7_comesBack_62 ?_
        refine v_dup2 (pc := 63) C rfl rfl dX7_comesBack_63 ?_
        refine al_15 (pc := 64) C ⟨by (first | assumption | omega), by (first | assumption | omega)⟩ dX7_comesBack_64 (g 15 0 0 ((10 + (6 * (g 15 0 0 (34 + 5 * e + 0)))) + 5)) (rfl) ?_
        refine v_iconst (pc := 65) C dX7_comesBack_65 ?_
        refine v_iadd (pc := 66) C dX7_comesBack_66 ?_
        refine as_15 (pc := 67) C ⟨by (first | assumption | omega), by (first | assumption | omega)⟩ dX7_comesBack_67 ?_
        refine v_st (g2 := cb1 g e a) C (by unfold cb1; rw [hK]) ?_
        refine v_iload (pc := 68) C 0 rfl dX7_comesBack_68 ?_
        refine v_iconst (pc := 70) C dX7_comesBack_70 ?_
        refine v_icmp_ne (pc := 71) C 89 ⟨by (first | assumption | omega), by (first | assumption | omega)⟩ ⟨by (first | assumption | omega), by (first | assumption | omega)⟩ (by decide) dX7_comesBack_71 (fun h71 => ?_) (fun h71 => ?_)
        · skip
          refine v_iconst (pc := 89) C dX7_comesBack_89 ?_
          exact v_zret (pc := 90) C hr hlk (by first | assumption | omega) (⟨congrArg iI (by unfold cbR; first | rw [if_pos (by omega)] | rw [if_neg (by omega)]), by unfold cbG; first | (rw [if_pos (by omega), cb2_i (x := 5) (by omega) (by omega), cb2_i (x := 6) (by omega) (by omega)]) | rw [if_neg (by omega)]⟩) dX7_comesBack_90
        · skip
          exfalso; omega
      · skip
        exfalso; omega
    · skip
      refine v_iconst (pc := 33) C dX7_comesBack_33 ?_
      refine v_goto (pc := 34) C 47 (by decide) dX7_comesBack_34 ?_
      have hK : cbK g e a = 4 := by (unfold cbK; first | rw [if_pos (by omega)] | rw [if_neg (by omega), if_pos (by omega)] | rw [if_neg (by omega), if_neg (by omega)])
      refine v_istore (pc := 47) C [(5, .int (iI 4)), (4, .int (iI 0)), (3, .int (iI (g 15 0 0 (34 + 5 * e + 0)))), (0, .ref (adr L 14 0 0)), (1, .int (iI e)), (2, .int (iI a))] (by decide) rfl dX7_comesBack_47 ?_
      refine v_aload_n (pc := 49) C 3 rfl rfl dX7_comesBack_49 ?_
      refine gt_14_1 (pc := 50) C u_4_4 dX7_comesBack_50 ?_
      refine v_bipush (pc := 53) C rfl dX7_comesBack_53 ?_
      refine v_bipush (pc := 55) C rfl dX7_comesBack_55 ?_
      refine v_iload_n (pc := 57) C 2 rfl rfl dX7_comesBack_57 ?_
      refine v_imul (pc := 58) C dX7_comesBack_58 ?_
      refine v_iadd (pc := 59) C dX7_comesBack_59 ?_
      refine v_iload (pc := 60) C 0 rfl dX7_comesBack_60 ?_
      refine v_iadd (pc := 62) C dX7_comesBack_62 ?_
      refine v_dup2 (pc := 63) C rfl rfl dX7_comesBack_63 ?_
      refine al_15 (pc := 64) C ⟨by (first | assumption | omega), by (first | assumption | omega)⟩ dX7_comesBack_64 (g 15 0 0 ((10 + (6 * (g 15 0 0 (34 + 5 * e + 0)))) + 4)) (rfl) ?_
      refine v_iconst (pc := 65) C dX7_comesBack_65 ?_
      refine v_iadd (pc := 66) C dX7_comesBack_66 ?_
      refine as_15 (pc := 67) C ⟨by (first | assumption | omega), by (first | assumption | omega)⟩ dX7_comesBack_67 ?_
      refine v_st (g2 := cb1 g e a) C (by unfold cb1; rw [hK]) ?_
      refine v_iload (pc := 68) C 0 rfl dX7_comesBack_68 ?_
      refine v_iconst (pc := 70) C dX7_comesBack_70 ?_
      refine v_icmp_ne (pc := 71) C 89 ⟨by (first | assumption | omega), by (first | assumption | omega)⟩ ⟨by (first | assumption | omega), by (first | assumption | omega)⟩ (by decide) dX7_comesBack_71 (fun h71 => ?_) (fun h71 => ?_)
      · skip
        refine v_iconst (pc := 89) C dX7_comesBack_89 ?_
        exact v_zret (pc := 90) C hr hlk (by first | assumption | omega) (⟨congrArg iI (by unfold cbR; first | rw [if_pos (by omega)] | rw [if_neg (by omega)]), by unfold cbG; first | (rw [if_pos (by omega), cb2_i (x := 5) (by omega) (by omega), cb2_i (x := 6) (by omega) (by omega)]) | rw [if_neg (by omega)]⟩) dX7_comesBack_90
      · skip
        exfalso; omega
  · skip
    refine v_iconst (pc := 22) C dX7_comesBack_22 ?_
    refine v_goto (pc := 23) C 27 (by decide) dX7_comesBack_23 ?_
    refine v_istore (pc := 27) C [(4, .int (iI 1)), (3, .int (iI (g 15 0 0 (34 + 5 * e + 0)))), (0, .ref (adr L 14 0 0)), (1, .int (iI e)), (2, .int (iI a))] (by decide) rfl dX7_comesBack_27 ?_
    refine v_iload_n (pc := 29) C 4 rfl rfl dX7_comesBack_29 ?_
    refine v_if_ne (pc := 30) C 37 ⟨by (first | assumption | omega), by (first | assumption | omega)⟩ (by decide) dX7_comesBack_30 (fun h30 => ?_) (fun h30 => ?_)
    · skip
      refine v_iload (pc := 37) C 0 rfl dX7_comesBack_37 ?_
      refine v_if_eq (pc := 39) C 46 ⟨by (first | assumption | omega), by (first | assumption | omega)⟩ (by decide) dX7_comesBack_39 (fun h39 => ?_) (fun h39 => ?_)
      · skip
        exfalso; omega
      · skip
        refine v_iconst (pc := 42) C dX7_comesBack_42 ?_
        refine v_goto (pc := 43) C 47 (by decide) dX7_comesBack_43 ?_
        have hK : cbK g e a = 3 := by (unfold cbK; first | rw [if_pos (by omega)] | rw [if_neg (by omega), if_pos (by omega)] | rw [if_neg (by omega), if_neg (by omega)])
        refine v_istore (pc := 47) C [(5, .int (iI 3)), (4, .int (iI 1)), (3, .int (iI (g 15 0 0 (34 + 5 * e + 0)))), (0, .ref (adr L 14 0 0)), (1, .int (iI e)), (2, .int (iI a))] (by decide) rfl dX7_comesBack_47 ?_
        refine v_aload_n (pc := 49) C 3 rfl rfl dX7_comesBack_49 ?_
        refine gt_14_1 (pc := 50) C u_4_4 dX7_comesBack_50 ?_
        refine v_bipush (pc := 53) C rfl dX7_comesBack_53 ?_
        refine v_bipush (pc := 55) C rfl dX7_comesBack_55 ?_
        refine v_iload_n (pc := 57) C 2 rfl rfl dX7_comesBack_57 ?_
        refine v_imul (pc := 58) C dX7_comesBack_58 ?_
        refine v_iadd (pc := 59) C dX7_comesBack_59 ?_
        refine v_iload (pc := 60) C 0 rfl dX7_comesBack_60 ?_
        refine v_iadd (pc := 62) C dX7_comesBack_62 ?_
        refine v_dup2 (pc := 63) C rfl rfl dX7_comesBack_63 ?_
        refine al_15 (pc := 64) C ⟨by (first | assumption | omega), by (first | assumption | omega)⟩ dX7_comesBack_64 (g 15 0 0 ((10 + (6 * (g 15 0 0 (34 + 5 * e + 0)))) + 3)) (rfl) ?_
        refine v_iconst (pc := 65) C dX7_comesBack_65 ?_
        refine v_iadd (pc := 66) C dX7_comesBack_66 ?_
        refine as_15 (pc := 67) C ⟨by (first | assumption | omega), by (first | assumption | omega)⟩ dX7_comesBack_67 ?_
        refine v_st (g2 := cb1 g e a) C (by unfold cb1; rw [hK]) ?_
        refine v_iload (pc := 68) C 0 rfl dX7_comesBack_68 ?_
        refine v_iconst (pc := 70) C dX7_comesBack_70 ?_
        refine v_icmp_ne (pc := 71) C 89 ⟨by (first | assumption | omega), by (first | assumption | omega)⟩ ⟨by (first | assumption | omega), by (first | assumption | omega)⟩ (by decide) dX7_comesBack_71 (fun h71 => ?_) (fun h71 => ?_)
        · skip
          exfalso; omega
        · skip
          refine v_aload_n (pc := 74) C 3 rfl rfl dX7_comesBack_74 ?_
          refine gt_14_1 (pc := 75) C u_4_4 dX7_comesBack_75 ?_
          refine v_iconst (pc := 78) C dX7_comesBack_78 ?_
          refine al_15 (pc := 79) C ⟨by (first | assumption | omega), by (first | assumption | omega)⟩ dX7_comesBack_79 (g 15 0 0 4) (cb1_i (by omega)) ?_
          refine v_aload_n (pc := 80) C 3 rfl rfl dX7_comesBack_80 ?_
          refine v_iload_n (pc := 81) C 4 rfl rfl dX7_comesBack_81 ?_
          refine v_iconst (pc := 82) C dX7_comesBack_82 ?_
          refine v_calliV (pc := 83) C cw_RX7_54 rcv_14 (ct_X7_ofEcho l L (cb1 g e a) e 1 (by first | assumption | omega) (by first | assumption | omega)) ⟨Nat.le_of_ble_eq_true rfl, Nat.le_of_ble_eq_true rfl⟩ rfl (Nat.le_of_ble_eq_true rfl) ⟨Nat.le_of_ble_eq_true rfl, Nat.le_of_ble_eq_true rfl⟩ rfl dX7_comesBack_83 (fun r9 u9 hP_4 => ?_)
          obtain ⟨hP_4, hP_4b⟩ := hP_4
          rw [hP_4, hP_4b]
          clear hP_4 hP_4b r9 u9
          refine v_topi (b := g 15 0 0 (34 + 5 * e + 1)) C (cb1_i (by omega)) ?_
          refine v_icmp_eq (pc := 86) C 91 ⟨by (first | assumption | omega), by (first | assumption | omega)⟩ ⟨by (first | assumption | omega), by (first | assumption | omega)⟩ (by decide) dX7_comesBack_86 (fun h86 => ?_) (fun h86 => ?_)
          · skip
            refine v_aload_n (pc := 91) C 3 rfl rfl dX7_comesBack_91 ?_
            refine gt_14_1 (pc := 92) C u_4_4 dX7_comesBack_92 ?_
            refine v_bipush (pc := 95) C rfl dX7_comesBack_95 ?_
            refine v_bipush (pc := 97) C rfl dX7_comesBack_97 ?_
            refine v_iload_n (pc := 99) C 2 rfl rfl dX7_comesBack_99 ?_
            refine v_imul (pc := 100) C dX7_comesBack_100 ?_
            refine v_iadd (pc := 101) C dX7_comesBack_101 ?_
            refine v_iconst (pc := 102) C dX7_comesBack_102 ?_
            refine v_iadd (pc := 103) C dX7_comesBack_103 ?_
            refine v_dup2 (pc := 104) C rfl rfl dX7_comesBack_104 ?_
            refine al_15 (pc := 105) C ⟨by (first | assumption | omega), by (first | assumption | omega)⟩ dX7_comesBack_105 (g 15 0 0 (10 + 6 * g 15 0 0 (34 + 5 * e + 0) + 1)) (cb1_i (by omega)) ?_
            refine v_iconst (pc := 106) C dX7_comesBack_106 ?_
            refine v_iadd (pc := 107) C dX7_comesBack_107 ?_
            refine as_15 (pc := 108) C ⟨by (first | assumption | omega), by (first | assumption | omega)⟩ dX7_comesBack_108 ?_
            refine v_st (g2 := cb2 g e a) C (rfl) ?_
            refine v_aload_n (pc := 109) C 3 rfl rfl dX7_comesBack_109 ?_
            refine v_aload_n (pc := 110) C 3 rfl rfl dX7_comesBack_110 ?_
            refine v_iload_n (pc := 111) C 4 rfl rfl dX7_comesBack_111 ?_
            refine v_iconst (pc := 112) C dX7_comesBack_112 ?_
            refine v_calliV (pc := 113) C cw_RX7_54 rcv_14 (ct_X7_ofEcho l L (cb2 g e a) e 2 (by first | assumption | omega) (by first | assumption | omega)) ⟨Nat.le_of_ble_eq_true rfl, Nat.le_of_ble_eq_true rfl⟩ rfl (Nat.le_of_ble_eq_true rfl) ⟨Nat.le_of_ble_eq_true rfl, Nat.le_of_ble_eq_true rfl⟩ rfl dX7_comesBack_113 (fun r9 u9 hP_5 => ?_)
            obtain ⟨hP_5, hP_5b⟩ := hP_5
            rw [hP_5, hP_5b]
            clear hP_5 hP_5b r9 u9
            refine v_topi (b := g 15 0 0 (34 + 5 * e + 2)) C (cb2_i (by omega) (by omega)) ?_
            refine v_callvV (pc := 116) C cw_RX7_67 rcv_14 (ct_X7_sendOn l L (cb2 g e a) (g 15 0 0 (34 + 5 * e + 2)) (by first | assumption | omega) (by rw [cb2_i (by omega) (by omega)]; exact mB2) (by rw [cb2_i (by omega) (by omega)]; exact mB1)) ⟨Nat.le_of_ble_eq_true rfl, Nat.le_of_ble_eq_true rfl⟩ rfl (Nat.le_of_ble_eq_true rfl) ⟨Nat.le_of_ble_eq_true rfl, Nat.le_of_ble_eq_true rfl⟩ rfl dX7_comesBack_116 (fun u9 hP_6 => ?_)
            rw [hP_6]
            clear hP_6 u9
            refine v_iconst (pc := 119) C dX7_comesBack_119 ?_
            exact v_zret (pc := 120) C hr hlk (by first | assumption | omega) (⟨congrArg iI (by unfold cbR; first | rw [if_pos (by omega)] | rw [if_neg (by omega)]), by unfold cbG; first | (rw [if_pos (by omega), cb2_i (x := 5) (by omega) (by omega), cb2_i (x := 6) (by omega) (by omega)]) | rw [if_neg (by omega)]⟩) dX7_comesBack_120
          · skip
            refine v_iconst (pc := 89) C dX7_comesBack_89 ?_
            exact v_zret (pc := 90) C hr hlk (by first | assumption | omega) (⟨congrArg iI (by unfold cbR; first | rw [if_pos (by omega)] | rw [if_neg (by omega)]), by unfold cbG; first | (rw [if_pos (by omega), cb2_i (x := 5) (by omega) (by omega), cb2_i (x := 6) (by omega) (by omega)]) | rw [if_neg (by omega)]⟩) dX7_comesBack_90
    · skip
      refine v_iconst (pc := 33) C dX7_comesBack_33 ?_
      refine v_goto (pc := 34) C 47 (by decide) dX7_comesBack_34 ?_
      have hK : cbK g e a = 4 := by (unfold cbK; first | rw [if_pos (by omega)] | rw [if_neg (by omega), if_pos (by omega)] | rw [if_neg (by omega), if_neg (by omega)])
      refine v_istore (pc := 47) C [(5, .int (iI 4)), (4, .int (iI 1)), (3, .int (iI (g 15 0 0 (34 + 5 * e + 0)))), (0, .ref (adr L 14 0 0)), (1, .int (iI e)), (2, .int (iI a))] (by decide) rfl dX7_comesBack_47 ?_
      refine v_aload_n (pc := 49) C 3 rfl rfl dX7_comesBack_49 ?_
      refine gt_14_1 (pc := 50) C u_4_4 dX7_comesBack_50 ?_
      refine v_bipush (pc := 53) C rfl dX7_comesBack_53 ?_
      refine v_bipush (pc := 55) C rfl dX7_comesBack_55 ?_
      refine v_iload_n (pc := 57) C 2 rfl rfl dX7_comesBack_57 ?_
      refine v_imul (pc := 58) C dX7_comesBack_58 ?_
      refine v_iadd (pc := 59) C dX7_comesBack_59 ?_
      refine v_iload (pc := 60) C 0 rfl dX7_comesBack_60 ?_
      refine v_iadd (pc := 62) C dX7_comesBack_62 ?_
      refine v_dup2 (pc := 63) C rfl rfl dX7_comesBack_63 ?_
      refine al_15 (pc := 64) C ⟨by (first | assumption | omega), by (first | assumption | omega)⟩ dX7_comesBack_64 (g 15 0 0 ((10 + (6 * (g 15 0 0 (34 + 5 * e + 0)))) + 4)) (rfl) ?_
      refine v_iconst (pc := 65) C dX7_comesBack_65 ?_
      refine v_iadd (pc := 66) C dX7_comesBack_66 ?_
      refine as_15 (pc := 67) C ⟨by (first | assumption | omega), by (first | assumption | omega)⟩ dX7_comesBack_67 ?_
      refine v_st (g2 := cb1 g e a) C (by unfold cb1; rw [hK]) ?_
      refine v_iload (pc := 68) C 0 rfl dX7_comesBack_68 ?_
      refine v_iconst (pc := 70) C dX7_comesBack_70 ?_
      refine v_icmp_ne (pc := 71) C 89 ⟨by (first | assumption | omega), by (first | assumption | omega)⟩ ⟨by (first | assumption | omega), by (first | assumption | omega)⟩ (by decide) dX7_comesBack_71 (fun h71 => ?_) (fun h71 => ?_)
      · skip
        refine v_iconst (pc := 89) C dX7_comesBack_89 ?_
        exact v_zret (pc := 90) C hr hlk (by first | assumption | omega) (⟨congrArg iI (by unfold cbR; first | rw [if_pos (by omega)] | rw [if_neg (by omega)]), by unfold cbG; first | (rw [if_pos (by omega), cb2_i (x := 5) (by omega) (by omega), cb2_i (x := 6) (by omega) (by omega)]) | rw [if_neg (by omega)]⟩) dX7_comesBack_90
      · skip
        exfalso; omega
set_option maxHeartbeats 4000000 in
set_option maxRecDepth 100000 in
theorem ct_X7_dropDue (l : Launch) (L : Lay) (g : St) (hm : wm (g 15 0 0) 0) : Met l yX7_dropDue (.code yX7_dropDue cX7_dropDue 4 none :: wsL_law) { frames := 1, cells := 0, slots := 0, locals := 22 } (va_Pc [.ref (adr L 14 0 0)] (HS L g)) (va_Qv (fun (u9 : St) => u9 = (ddG g)) (fun u t => HS L u t) (Af L)) 0 0 (Af L) := by
  refine ct_mk (by decide +kernel) (Nat.le_of_ble_eq_true rfl) ?_
  intro pp ee ss mm bel mth cx C hr hlk
  show V pp l ee { frames := 1, cells := 0, slots := 0, locals := 22 } ss mm ([.ref (adr L 14 0 0)]).toArray bel mth cx 4 L (HH L g) 0 0 _ 0 [(0, .ref (adr L 14 0 0))] []
  obtain ⟨mS0, mS1, mS2, mB0, mB1, mB2, mCl, mN, mPl, mEc⟩ := id hm
  refine v_iconst (pc := 0) C dX7_dropDue_0 ?_
  refine v_istore_n (pc := 1) C [(1, .int (iI 0)), (0, .ref (adr L 14 0 0))] rfl (by decide) rfl dX7_dropDue_1 ?_
  refine v_iconst (pc := 2) C dX7_dropDue_2 ?_
  refine v_istore_n (pc := 3) C [(2, .int (iI 0)), (1, .int (iI 0)), (0, .ref (adr L 14 0 0))] rfl (by decide) rfl dX7_dropDue_3 ?_
  have lb4 : ∀ (n9 : Nat) (i : Int) (q : Int), (0 ≤ i ∧ i ≤ g 15 0 0 9) → (q = kpM g (g 15 0 0 3) i.toNat) → (g 15 0 0 9 - i).toNat < n9 → V pp l ee { frames := 1, cells := 0, slots := 0, locals := 22 } ss mm ([.ref (adr L 14 0 0)]).toArray bel mth cx 4 L (HH L (dpM g (g 15 0 0 3) i.toNat)) 0 0 (MQ bel (va_Qv (fun (u9 : St) => u9 = (ddG g)) (fun u t => HS L u t) (Af L)) ([.ref (adr L 14 0 0)]).toArray ss 0 0 (Af L)) 4 [(0, .ref (adr L 14 0 0)), (1, .int (iI q)), (2, .int (iI i))] [] := by
    intro n9
    induction n9 with
    | zero => intro i q hi hq hm9; exact absurd hm9 (Nat.not_lt_zero _)
    | succ n9 ih9 =>
      intro i q hi hq hm9
      have hk := kpM_in g (g 15 0 0 3) i.toNat
      have l9 := dpM_lo g (g 15 0 0 3) (x := 9) (by decide) i.toNat
      have l3 := dpM_lo g (g 15 0 0 3) (x := 3) (by decide) i.toNat
      have hi5 := fun x (hx : 0 ≤ x) => dpM_hi g (g 15 0 0 3) (x := 34 + 5 * i + x) i.toNat (by omega)
      have es : (i + 1).toNat = i.toNat + 1 := by omega
      have ei : ((i.toNat : Nat) : Int) = i := by omega
      have ih4 := ih9
      refine v_iload_n (pc := 4) C 2 rfl rfl dX7_dropDue_4 ?_
      refine v_aload_n (pc := 5) C 0 rfl rfl dX7_dropDue_5 ?_
      refine gt_14_1 (pc := 6) C u_4_4 dX7_dropDue_6 ?_
      refine v_bipush (pc := 9) C rfl dX7_dropDue_9 ?_
      refine al_15 (pc := 11) C ⟨by (first | assumption | omega), by (first | assumption | omega)⟩ dX7_dropDue_11 (g 15 0 0 9) (l9) ?_
      refine v_icmp_ge (pc := 12) C 71 ⟨by (first | assumption | omega), by (first | assumption | omega)⟩ ⟨by (first | assumption | omega), by (first | assumption | omega)⟩ (by decide) dX7_dropDue_12 (fun h12 => ?_) (fun h12 => ?_)
      · skip
        refine v_st (g2 := dpM g (g 15 0 0 3) (g 15 0 0 9).toNat) C (by rw [show i = g 15 0 0 9 by omega]) ?_
        refine v_aload_n (pc := 71) C 0 rfl rfl dX7_dropDue_71 ?_
        refine gt_14_1 (pc := 72) C u_4_4 dX7_dropDue_72 ?_
        refine v_bipush (pc := 75) C rfl dX7_dropDue_75 ?_
        refine v_iload_n (pc := 77) C 1 rfl rfl dX7_dropDue_77 ?_
        refine as_15 (pc := 78) C ⟨by (first | assumption | omega), by (first | assumption | omega)⟩ dX7_dropDue_78 ?_
        exact v_vret (pc := 79) C hr hlk (by unfold ddG; rw [hq, show i = g 15 0 0 9 by omega]) dX7_dropDue_79
      · skip
        have hee := mEc i (by omega) (by omega)
        unfold okM at hee
        refine v_aload_n (pc := 15) C 0 rfl rfl dX7_dropDue_15 ?_
        refine v_iload_n (pc := 16) C 2 rfl rfl dX7_dropDue_16 ?_
        refine v_iconst (pc := 17) C dX7_dropDue_17 ?_
        refine v_calliV (pc := 18) C cw_RX7_54 rcv_14 (ct_X7_ofEcho l L (dpM g (g 15 0 0 3) i.toNat) i 3 (by first | assumption | omega) (by first | assumption | omega)) ⟨Nat.le_of_ble_eq_true rfl, Nat.le_of_ble_eq_true rfl⟩ rfl (Nat.le_of_ble_eq_true rfl) ⟨Nat.le_of_ble_eq_true rfl, Nat.le_of_ble_eq_true rfl⟩ rfl dX7_dropDue_18 (fun r9 u9 hP_1 => ?_)
        obtain ⟨hP_1, hP_1b⟩ := hP_1
        rw [hP_1, hP_1b]
        clear hP_1 hP_1b r9 u9
        refine v_topi (b := g 15 0 0 (34 + 5 * i + 3)) C (hi5 3 (by decide)) ?_
        refine v_aload_n (pc := 21) C 0 rfl rfl dX7_dropDue_21 ?_
        refine gt_14_1 (pc := 22) C u_4_4 dX7_dropDue_22 ?_
        refine v_iconst (pc := 25) C dX7_dropDue_25 ?_
        refine al_15 (pc := 26) C ⟨by (first | assumption | omega), by (first | assumption | omega)⟩ dX7_dropDue_26 (g 15 0 0 3) (l3) ?_
        refine v_icmp_le (pc := 27) C 65 ⟨by (first | assumption | omega), by (first | assumption | omega)⟩ ⟨by (first | assumption | omega), by (first | assumption | omega)⟩ (by decide) dX7_dropDue_27 (fun h27 => ?_) (fun h27 => ?_)
        · skip
          refine v_iinc (pc := 65) C 2 [(2, .int (iI (i + 1))), (0, .ref (adr L 14 0 0)), (1, .int (iI q))] rfl (by decide) rfl dX7_dropDue_65 ?_
          refine v_goto (pc := 68) C 4 (by decide) dX7_dropDue_68 ?_
          refine v_lsub [1, 2, 0] rfl ?_
          refine v_st (g2 := dpM g (g 15 0 0 3) (i + 1).toNat) C (by rw [es, dpM, ei, ← hq]; first | rw [if_pos (by omega)] | (rw [if_neg (by omega)])) ?_
          exact ih4 (i + 1) q (by omega) (by rw [es, kpM, ei, ← hq]; first | rw [if_pos (by omega)] | (rw [if_neg (by omega)])) (by omega)
        · skip
          refine v_iconst (pc := 30) C dX7_dropDue_30 ?_
          refine v_istore_n (pc := 31) C [(3, .int (iI 0)), (0, .ref (adr L 14 0 0)), (1, .int (iI q)), (2, .int (iI i))] rfl (by decide) rfl dX7_dropDue_31 ?_
          have lb32 : ∀ (n9 : Nat) (x : Int), (0 ≤ x ∧ x ≤ 5) → (5 - x).toNat < n9 → V pp l ee { frames := 1, cells := 0, slots := 0, locals := 22 } ss mm ([.ref (adr L 14 0 0)]).toArray bel mth cx 4 L (HH L (cp5 (dpM g (g 15 0 0 3) i.toNat) q i x)) 0 0 (MQ bel (va_Qv (fun (u9 : St) => u9 = (ddG g)) (fun u t => HS L u t) (Af L)) ([.ref (adr L 14 0 0)]).toArray ss 0 0 (Af L)) 32 [(0, .ref (adr L 14 0 0)), (1, .int (iI q)), (2, .int (iI i)), (3, .int (iI x))] [] := by
            intro n9
            induction n9 with
            | zero => intro x hx hm9; exact absurd hm9 (Nat.not_lt_zero _)
            | succ n9 ih9 =>
              intro x hx hm9
              have ih32 := ih9
              refine v_iload_n (pc := 32) C 3 rfl rfl dX7_dropDue_32 ?_
              refine v_iconst (pc := 33) C dX7_dropDue_33 ?_
              refine v_icmp_ge (pc := 34) C 62 ⟨by (first | assumption | omega), by (first | assumption | omega)⟩ ⟨by (first | assumption | omega), by (first | assumption | omega)⟩ (by decide) dX7_dropDue_34 (fun h34 => ?_) (fun h34 => ?_)
              · skip
                refine v_st (g2 := cp5 (dpM g (g 15 0 0 3) i.toNat) q i 5) C (by rw [show x = 5 by omega]) ?_
                refine v_iinc (pc := 62) C 1 [(1, .int (iI (q + 1))), (0, .ref (adr L 14 0 0)), (2, .int (iI i)), (3, .int (iI x))] rfl (by decide) rfl dX7_dropDue_62 ?_
                refine v_iinc (pc := 65) C 2 [(2, .int (iI (i + 1))), (1, .int (iI (q + 1))), (0, .ref (adr L 14 0 0)), (3, .int (iI x))] rfl (by decide) rfl dX7_dropDue_65 ?_
                refine v_goto (pc := 68) C 4 (by decide) dX7_dropDue_68 ?_
                refine v_lsub [2, 1, 0] rfl ?_
                refine v_st (g2 := dpM g (g 15 0 0 3) (i + 1).toNat) C (by rw [es, dpM, ei, ← hq]; first | rw [if_pos (by omega)] | (rw [if_neg (by omega)])) ?_
                exact ih4 (i + 1) (q + 1) (by omega) (by rw [es, kpM, ei, ← hq]; first | rw [if_pos (by omega)] | (rw [if_neg (by omega)])) (by omega)
              · skip
                refine v_aload_n (pc := 37) C 0 rfl rfl dX7_dropDue_37 ?_
                refine gt_14_1 (pc := 38) C u_4_4 dX7_dropDue_38 ?_
                refine v_bipush (pc := 41) C rfl dX7_dropDue_41 ?_
                refine v_iconst (pc := 43) C dX7_dropDue_43 ?_
                refine v_iload_n (pc := 44) C 1 rfl rfl dX7_dropDue_44 ?_
                refine v_imul (pc := 45) C dX7_dropDue_45 ?_
                refine v_iadd (pc := 46) C dX7_dropDue_46 ?_
                refine v_iload_n (pc := 47) C 3 rfl rfl dX7_dropDue_47 ?_
                refine v_iadd (pc := 48) C dX7_dropDue_48 ?_
                refine v_aload_n (pc := 49) C 0 rfl rfl dX7_dropDue_49 ?_
                refine v_iload_n (pc := 50) C 2 rfl rfl dX7_dropDue_50 ?_
                refine v_iload_n (pc := 51) C 3 rfl rfl dX7_dropDue_51 ?_
                refine v_calliV (pc := 52) C cw_RX7_54 rcv_14 (ct_X7_ofEcho l L (cp5 (dpM g (g 15 0 0 3) i.toNat) q i x) i x (by first | assumption | omega) (by first | assumption | omega)) ⟨Nat.le_of_ble_eq_true rfl, Nat.le_of_ble_eq_true rfl⟩ rfl (Nat.le_of_ble_eq_true rfl) ⟨Nat.le_of_ble_eq_true rfl, Nat.le_of_ble_eq_true rfl⟩ rfl dX7_dropDue_52 (fun r9 u9 hP_2 => ?_)
                obtain ⟨hP_2, hP_2b⟩ := hP_2
                rw [hP_2, hP_2b]
                clear hP_2 hP_2b r9 u9
                refine v_topi (b := (dpM g (g 15 0 0 3) i.toNat) 15 0 0 (34 + 5 * i + x)) C (cpX hx.1 (by omega) (by omega)) ?_
                refine as_15 (pc := 55) C ⟨by (first | assumption | omega), by (first | assumption | omega)⟩ dX7_dropDue_55 ?_
                refine v_iinc (pc := 56) C 3 [(3, .int (iI (x + 1))), (0, .ref (adr L 14 0 0)), (1, .int (iI q)), (2, .int (iI i))] rfl (by decide) rfl dX7_dropDue_56 ?_
                refine v_goto (pc := 59) C 32 (by decide) dX7_dropDue_59 ?_
                refine v_lsub [1, 2, 3, 0] rfl ?_
                refine v_st (g2 := cp5 (dpM g (g 15 0 0 3) i.toNat) q i (x + 1)) C (by exact cp5_s _ _ _ _ hx.1) ?_
                exact ih32 (x + 1) (by omega) (by omega)
          refine v_lsub [1, 2, 3, 0] rfl ?_
          refine v_st (g2 := cp5 (dpM g (g 15 0 0 3) i.toNat) q i 0) C (by exact (cp5_0 _ _ _).symm) ?_
          exact lb32 _ 0 (by omega) (Nat.lt_succ_self _)
  refine v_lsub [2, 1, 0] rfl ?_
  refine v_st (g2 := dpM g (g 15 0 0 3) (0 : Int).toNat) C (by rfl) ?_
  exact lb4 _ 0 0 (by omega) (by rfl) (Nat.lt_succ_self _)
