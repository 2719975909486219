/-! the reference: a run of orders -/
def n6M (g : St) : Prop := ∀ p, 0 ≤ p → p < 4 → mUw g p ≤ 6
theorem mUw_x {g u : St} (h : ∀ x, (x = 9 ∨ 34 ≤ x) → u 15 0 0 x = g 15 0 0 x) (p : Int) : mUw u p = mUw g p := by
  show cn (mOf u p) (u 15 0 0 9).toNat = cn (mOf g p) (g 15 0 0 9).toNat
  rw [h 9 (by decide)]
  exact cn_congr (fun i h0 _ => by simp only [mOf]; rw [h (34 + 5 * i + 0) (by omega)])
theorem mUw_ad {g : St} {p w y q : Int} (hn : 0 ≤ g 15 0 0 9) : mUw (adM g p w y) q = mUw g q + (if p = q then 1 else 0) := by
  show cn (mOf (adM g p w y) q) (adM g p w y 15 0 0 9).toNat = cn (mOf g q) (g 15 0 0 9).toNat + _
  rw [ad_9, cn_s hn]
  have h1 : cn (mOf (adM g p w y) q) (g 15 0 0 9).toNat = cn (mOf g q) (g 15 0 0 9).toNat := cn_congr (fun i h0 h1 => by simp only [mOf]; rw [ad_e (by omega) (by omega)])
  have h2 : mOf (adM g p w y) q (g 15 0 0 9) = decide (p = q) := by simp only [mOf]; rw [(ad_n hn).1]
  rw [h1, h2]; simp only [decide_eq_true_eq]
theorem cn_sum (g : St) : ∀ n : Nat, (∀ e : Int, 0 ≤ e → e < n → 0 ≤ g 15 0 0 (34 + 5 * e + 0) ∧ g 15 0 0 (34 + 5 * e + 0) < 4) → cn (mOf g 0) n + cn (mOf g 1) n + cn (mOf g 2) n + cn (mOf g 3) n = n
  | 0, _ => by simp [cn]
  | n + 1, h => by
    have ih := cn_sum g n (fun e h0 h1 => h e h0 (by omega))
    have hl := h n (by omega) (by omega)
    simp only [cn]
    simp only [mOf, decide_eq_true_eq]
    (repeat' split) <;> omega
theorem n6_room {g : St} {d : Int} (h : wm (g 15 0 0) d) (h6 : n6M g) : ∀ p, 0 ≤ p → p < 4 → mUw g p + 2 ≤ 6 → g 15 0 0 9 + 2 ≤ 24 := by
  intro p h0 h4 hp
  have hN := h.2.2.2.2.2.2.2.1
  have hs := cn_sum g (g 15 0 0 9).toNat (fun e e0 e1 => (h.2.2.2.2.2.2.2.2.2 e e0 (by omega)).1)
  have a0 : cn (mOf g 0) (g 15 0 0 9).toNat ≤ 6 := h6 0 (by decide) (by decide)
  have a1 : cn (mOf g 1) (g 15 0 0 9).toNat ≤ 6 := h6 1 (by decide) (by decide)
  have a2 : cn (mOf g 2) (g 15 0 0 9).toNat ≤ 6 := h6 2 (by decide) (by decide)
  have a3 : cn (mOf g 3) (g 15 0 0 9).toNat ≤ 6 := h6 3 (by decide) (by decide)
  have hp2 : cn (mOf g p) (g 15 0 0 9).toNat + 2 ≤ 6 := hp
  have hq : p = 0 ∨ p = 1 ∨ p = 2 ∨ p = 3 := by omega
  rcases hq with rfl | rfl | rfl | rfl <;> omega
theorem n6_dc {g : St} {p w : Int} (h : wm (g 15 0 0) 1) (h6 : n6M g) (hp : 0 ≤ p ∧ p < 4) : n6M (dcM g p w) := by
  have hN := h.2.2.2.2.2.2.2.1
  unfold dcM; split
  · intro q h0 h4; rw [mUw_x (fun x hx => up_i (by omega)) q]; exact h6 q h0 h4
  · intro q h0 h4
    have e1 : mUw (dcG g p w) q = mUw (dcA g p w) q := mUw_x (fun x hx => by unfold dcG; rw [up_i (by omega), up_i (by omega)]) q
    rw [e1]; unfold dcA
    rw [mUw_ad (by rw [ad_9]; omega), mUw_ad hN.1]
    have := h6 q h0 h4
    by_cases hq : p = q
    · subst hq; rw [if_pos rfl]; omega
    · rw [if_neg hq]; omega
theorem wm_dc {g : St} {p w : Int} (h : wm (g 15 0 0) 1) (h6 : n6M g) (hp : 0 ≤ p ∧ p < 4) (hw : 0 ≤ w ∧ w ≤ 9) : wm (dcM g p w 15 0 0) 1 := by
  have hN := h.2.2.2.2.2.2.2.1
  unfold dcM; split
  · exact wm_eq h (by rw [up_i (by decide)]; exact h.2.2.2.2.1) (by rw [up_i (by decide)]; exact h.2.2.2.2.2.1) (fun q h0 h4 => up_i (by omega)) (fun x hx => up_i (by omega))
  · have hr := n6_room h h6 p hp.1 hp.2 (by omega)
    have h1 := wm_ad (y := 0) h hp hw (by decide) (by omega)
    have h2 : wm (dcA g p w 15 0 0) 1 := wm_ad h1 hp hw (by decide) (by rw [ad_9]; omega)
    unfold dcG
    exact wm_eq h2 (by rw [up_i (by omega), up_i (by omega)]; exact h2.2.2.2.2.1) (by rw [up_i (by omega), up_i (by omega)]; exact h2.2.2.2.2.2.1) (fun q h0 h4 => by rw [up_i (by omega), up_i (by omega)]) (fun x hx => by rw [up_i (by omega), up_i (by omega)])
theorem wm_mv {g : St} {p b : Int} (h : wm (g 15 0 0) 1) (hp : 0 ≤ p ∧ p < 4) : wm (mvGM g p b 15 0 0) 1 := by
  unfold mvGM; split
  · exact wm_eq h (by rw [up_i (by decide)]; exact h.2.2.2.2.1) (by rw [up_i (by decide)]; exact h.2.2.2.2.2.1) (fun q h0 h4 => up_i (by omega)) (fun x hx => up_i (by omega))
  · rename_i hm
    obtain ⟨mS0, mS1, mS2, mB0, mB1, mB2, mCl, mN, mPl, mEc⟩ := h
    have lo : ∀ x : Int, x ≠ 10 + 6 * p + 0 → up g 15 0 0 (10 + 6 * p + 0) (g 15 0 0 (10 + 6 * p + 0) + b) 15 0 0 x = g 15 0 0 x := fun x hx => up_i hx
    unfold wm
    rw [lo 0 (by omega), lo 1 (by omega), lo 2 (by omega), lo 3 (by omega), lo 4 (by omega), lo 5 (by omega), lo 6 (by omega), lo 9 (by omega)]
    refine ⟨mS0, mS1, mS2, mB0, mB1, mB2, mCl, mN, fun q h0 h4 => ?_, fun e h0 h1 => okM_of (mEc e h0 h1) (lo 0 (by omega)) (lo 3 (by omega)) (fun x h0 h5 => lo _ (by omega))⟩
    by_cases hq : q = p
    · subst hq; rw [up_s]; omega
    · rw [lo _ (by omega)]; exact mPl q h0 h4
theorem n6_mv {g : St} {p b : Int} (h6 : n6M g) (hp : 0 ≤ p ∧ p < 4) : n6M (mvGM g p b) := by
  unfold mvGM; split
  · intro q h0 h4; rw [mUw_x (fun x hx => up_i (by omega)) q]; exact h6 q h0 h4
  · intro q h0 h4; rw [mUw_x (fun x hx => up_i (by omega)) q]; exact h6 q h0 h4
theorem mUw_dp (g : St) (c q : Int) : ∀ n : Nat, cn (mOf (dpM g c n) q) (kpM g c n).toNat ≤ cn (mOf g q) n
  | 0 => by simp [kpM, cn]
  | n + 1 => by
    have ih := mUw_dp g c q n
    have hk := kpM_in g c n
    rw [kpM, dpM]; split
    · rw [cn_s hk.1]
      have h1 : cn (mOf (cp5 (dpM g c n) (kpM g c n) n 5) q) (kpM g c n).toNat = cn (mOf (dpM g c n) q) (kpM g c n).toNat := cn_congr (fun i h0 h1 => by simp only [mOf]; rw [cp5_o (by omega)])
      have h2 : mOf (cp5 (dpM g c n) (kpM g c n) n 5) q (kpM g c n) = mOf g q n := by simp only [mOf]; rw [cp5_n (by omega), dpM_hi _ _ _ (by omega)]
      rw [h1, h2]
      show _ ≤ cn (mOf g q) n + _
      omega
    · have := cn_mono (mOf g q) (Nat.le_succ n)
      exact Int.le_trans ih this
theorem n6_dd {g : St} (h6 : n6M g) : n6M (ddG g) := by
  intro q h0 h4
  have h1 : mUw (ddG g) q = cn (mOf (dpM g (g 15 0 0 3) (g 15 0 0 9).toNat) q) (kpM g (g 15 0 0 3) (g 15 0 0 9).toNat).toNat := by
    show cn (mOf (ddG g) q) (ddG g 15 0 0 9).toNat = _
    have l9 : ddG g 15 0 0 9 = kpM g (g 15 0 0 3) (g 15 0 0 9).toNat := by unfold ddG; rw [up_s]
    rw [l9]
    exact cn_congr (fun i h0 h1 => by simp only [mOf]; unfold ddG; rw [up_i (by omega)])
  rw [h1]
  exact Int.le_trans (mUw_dp g (g 15 0 0 3) q (g 15 0 0 9).toNat) (h6 q h0 h4)
theorem n6_tu {g : St} (h : wm (g 15 0 0) 1) (hc : g 15 0 0 3 + 1 ≤ 100000) (h6 : n6M g) : n6M (tuM g).1 := by
  have hp := tpP_in (wm_mt h hc) (g 15 0 0 0 + 1).toNat
  refine n6_dd (fun q h0 h4 => ?_)
  rw [mUw_x (fun x hx => by rw [hp.1.2.1 x (by omega), mtC_x g (by omega) (by omega) (by omega)]) q]
  exact h6 q h0 h4
theorem n6_tn {g : St} (h : wm (g 15 0 0) 1) (h6 : n6M g) : ∀ n : Nat, g 15 0 0 3 + n ≤ 100000 → n6M (tuN g n).1
  | 0, _ => h6
  | n + 1, hn => by
    have hi := tuN_in h n (by omega)
    exact n6_tu hi.1 (by omega) (n6_tn h h6 n (by omega))
/-- of the numbers of the object itself a turn changes two -/
def f14 (g u : St) : Prop := (∀ x, x ≠ 12 → x ≠ 13 → u 14 0 0 x = g 14 0 0 x) ∧ ∀ f : Nat, f ≠ 14 → f ≠ 15 → u f = g f
theorem f14_tr {g u w : St} (h : f14 g u) (h2 : f14 u w) : f14 g w := ⟨fun x a b => (h2.1 x a b).trans (h.1 x a b), fun f a b => (h2.2 f a b).trans (h.2 f a b)⟩
theorem f14_of {g u : St} (h : ∀ f : Nat, f ≠ 15 → u f = g f) : f14 g u := ⟨fun x _ _ => by rw [h 14 (by decide)], fun f _ h2 => h f h2⟩
theorem f14_up {g : St} {k j i v : Int} : f14 g (up g 15 k j i v) := f14_of (fun f h => up_ff h)
theorem f14_dc (g : St) (p w : Int) : f14 g (dcM g p w) := by
  unfold dcM; split
  · exact f14_up
  · exact f14_of (fun f h => by unfold dcG dcA; rw [up_ff h, up_ff h, ad_f h, ad_f h])
theorem f14_mv (g : St) (p b : Int) : f14 g (mvGM g p b) := by unfold mvGM; split <;> exact f14_up
theorem f14_mt (g : St) : f14 g (mtC g) := by
  refine ⟨fun x h1 h2 => ?_, fun f h h5 => ?_⟩
  · unfold mtC; rw [up_f (by decide), up_f (by decide)]; unfold mtB mtA mbG; rw [up_i h2, up_i h1, up_i h2, up_i h1, up_f (by decide)]
  · unfold mtC; rw [up_ff h5, up_ff h5]; unfold mtB; rw [mbG_f _ _ h]; unfold mtA; rw [up_ff h, up_ff h, up_ff h5]
theorem f14_tu {g : St} (h : wm (g 15 0 0) 1) (hc : g 15 0 0 3 + 1 ≤ 100000) : f14 g (tuM g).1 := by
  have hp := tpP_in (wm_mt h hc) (g 15 0 0 0 + 1).toNat
  refine f14_tr (f14_tr (f14_mt g) (f14_of hp.1.2.2)) (f14_of (fun f hf => ?_))
  show ddG _ f = _
  unfold ddG; rw [up_ff hf, dpM_f _ _ hf]
theorem f14_tn {g : St} (h : wm (g 15 0 0) 1) : ∀ n : Nat, g 15 0 0 3 + n ≤ 100000 → f14 g (tuN g n).1
  | 0, _ => ⟨fun _ _ _ => rfl, fun _ _ _ => rfl⟩
  | n + 1, hn => by
    have hi := tuN_in h n (by omega)
    exact f14_tr (f14_tn h n (by omega)) (f14_tu hi.1 (by omega))
/-- the numbers of an order that was read -/
def vO (g : St) : Prop := (g 14 0 0 9 = 99 → (0 ≤ g 14 0 0 10 ∧ g 14 0 0 10 < 4) ∧ (0 ≤ g 14 0 0 11 ∧ g 14 0 0 11 ≤ 9)) ∧ (g 14 0 0 9 = 109 → (0 ≤ g 14 0 0 10 ∧ g 14 0 0 10 < 4) ∧ (-9 ≤ g 14 0 0 11 ∧ g 14 0 0 11 ≤ 9)) ∧ (g 14 0 0 9 ≠ 99 → g 14 0 0 9 ≠ 109 → 1 ≤ g 14 0 0 10 ∧ g 14 0 0 10 ≤ 99) ∧ (0 ≤ g 14 0 0 9 ∧ g 14 0 0 9 ≤ 126)
theorem at_x {g : St} {x : Int} (h : x ≠ 8) : atS g 14 0 0 x = g 14 0 0 x := up_i h
theorem dg_x {g : St} {a b x : Int} (h : x ≠ 8) : dgG g a b 14 0 0 x = g 14 0 0 x := by unfold dgG; split; exact at_x h; rfl
theorem tk_x {g : St} {c x : Int} (h : x ≠ 8) : tkG g c 14 0 0 x = g 14 0 0 x := by unfold tkG; split; exact at_x h; rfl
theorem fs_10 (g : St) (a b : Int) : fsB g a b 14 0 0 10 = dgR g a b := up_s
theorem fs_9 (g : St) (a b : Int) : fsB g a b 14 0 0 9 = g 14 0 0 9 := by unfold fsB; rw [up_i (by decide), dg_x (by decide)]
theorem sn_11 (g : St) (a b s : Int) : snB g a b s 14 0 0 11 = s * dgR g a b := up_s
theorem sn_x (g : St) (a b s : Int) {x : Int} (h : x ≠ 8) (h2 : x ≠ 11) : snB g a b s 14 0 0 x = g 14 0 0 x := by unfold snB; rw [up_i h2, dg_x h]
theorem dgR_b {g : St} {a b : Int} (h : dgR g a b ≠ -1) : a ≤ dgR g a b ∧ dgR g a b ≤ b := by
  unfold dgR at *; split
  · assumption
  · rename_i hn; rw [if_neg hn] at h; exact absurd rfl h
theorem rc_9 (g : St) : rcG g 14 0 0 9 = g 14 0 0 9 := by
  unfold rcG; (repeat' split)
  · exact fs_9 _ _ _
  · rw [sn_x _ _ _ _ (by decide) (by decide), tk_x (by decide), fs_9]
  · exact fs_9 _ _ _
theorem rw_9 (g : St) : rwG g 14 0 0 9 = g 14 0 0 9 := by
  unfold rwG; (repeat' split)
  · exact fs_9 _ _ _
  · rw [sn_x _ _ _ _ (by decide) (by decide), tk_x (by decide), fs_9]
  · rw [sn_x _ _ _ _ (by decide) (by decide), tk_x (by decide), fs_9]
  · exact fs_9 _ _ _
theorem rt_9 (g : St) : rtG g 14 0 0 9 = g 14 0 0 9 := by
  unfold rtG; (repeat' split)
  · rw [up_i (by decide), fs_9]
  · rw [up_i (by decide), dg_x (by decide), fs_9]
  · rw [up_i (by decide), dg_x (by decide), fs_9]
theorem alt_9 (g : St) : atS (ltG g) 14 0 0 9 = nx g := by rw [at_x (by decide)]; exact up_s
theorem vO_ro {g : St} (hb : wb g) (h : roR g ≠ 0) : vO (roG g) := by
  have hn := nx_in hb
  unfold roR at h
  unfold roG
  by_cases h99 : nx g = 99
  · rw [if_pos h99] at h ⊢
    have e9 : rcG (atS (ltG g)) 14 0 0 9 = 99 := by rw [rc_9, alt_9, h99]
    unfold rcR at h
    split at h
    · exact absurd rfl h
    · rename_i h1
      split at h
      · rename_i h2
        split at h
        · exact absurd rfl h
        · rename_i h3
          have b1 := dgR_b h1
          have b2 := dgR_b h3
          refine ⟨fun _ => ?_, fun hx => by omega, fun hx => absurd e9 hx, by omega⟩
          unfold rcG
          rw [if_neg h1, if_pos h2, sn_11, sn_x _ _ _ _ (by decide) (by decide), tk_x (by decide), fs_10]
          omega
      · exact absurd rfl h
  · rw [if_neg h99] at h ⊢
    by_cases h109 : nx g = 109
    · rw [if_pos h109] at h ⊢
      have e9 : rwG (atS (ltG g)) 14 0 0 9 = 109 := by rw [rw_9, alt_9, h109]
      unfold rwR at h
      split at h
      · exact absurd rfl h
      · rename_i h1
        have b1 := dgR_b h1
        split at h
        · rename_i h2
          split at h
          · exact absurd rfl h
          · rename_i h3
            have b2 := dgR_b h3
            refine ⟨fun hx => by omega, fun _ => ?_, fun _ hx => absurd e9 hx, by omega⟩
            unfold rwG
            rw [if_neg h1, if_pos h2, sn_11, sn_x _ _ _ _ (by decide) (by decide), tk_x (by decide), fs_10]
            omega
        · rename_i h2
          split at h
          · rename_i h4
            split at h
            · exact absurd rfl h
            · rename_i h3
              have b2 := dgR_b h3
              refine ⟨fun hx => by omega, fun _ => ?_, fun _ hx => absurd e9 hx, by omega⟩
              unfold rwG
              rw [if_neg h1, if_neg h2, if_pos h4, sn_11, sn_x _ _ _ _ (by decide) (by decide), tk_x (by decide), fs_10]
              omega
          · exact absurd rfl h
    · rw [if_neg h109] at h ⊢
      by_cases h116 : nx g = 116
      · rw [if_pos h116] at h ⊢
        have e9 : rtG (atS (ltG g)) 14 0 0 9 = 116 := by rw [rt_9, alt_9, h116]
        unfold rtR at h
        split at h
        · exact absurd rfl h
        · rename_i h1
          have b1 := dgR_b h1
          refine ⟨fun hx => by omega, fun hx => by omega, fun _ _ => ?_, by omega⟩
          unfold rtG
          rw [if_neg h1]
          split
          · rw [up_s]; omega
          · rename_i h2
            have b2 := dgR_b h2
            rw [up_s]; omega
      · rw [if_neg h116] at h; exact absurd rfl h
def rI (g : St) : Prop := wb g ∧ wm (g 15 0 0) 1 ∧ n6M g
theorem f14_do {g : St} (h : wm (g 15 0 0) 1) (hv : vO g) : f14 g (doM g) := by
  unfold doM; (repeat' split)
  · exact f14_dc _ _ _
  · exact f14_mv _ _ _
  · have := hv.2.2.1 (by assumption) (by assumption)
    exact f14_tn h _ (by omega)
  · exact ⟨fun _ _ _ => rfl, fun _ _ _ => rfl⟩
theorem wm_do {g : St} (h : wm (g 15 0 0) 1) (h6 : n6M g) (hv : vO g) : wm (doM g 15 0 0) 1 ∧ n6M (doM g) := by
  unfold doM; (repeat' split)
  · have := hv.1 (by assumption); exact ⟨wm_dc h h6 this.1 this.2, n6_dc h h6 this.1⟩
  · have := hv.2.1 (by assumption); exact ⟨wm_mv h this.1, n6_mv h6 this.1⟩
  · have := hv.2.2.1 (by assumption) (by assumption)
    exact ⟨(tuN_in h _ (by omega)).1, n6_tn h h6 _ (by omega)⟩
  · exact ⟨h, h6⟩
theorem wb_14 {g u : St} (h : wb g) (hf : f14 g u) : wb u := by
  unfold wb at *
  rw [hf.1 7 (by decide) (by decide), hf.1 8 (by decide) (by decide), hf.2 19 (by decide) (by decide)]
  exact h
theorem wb_at {g : St} (h : wb g) (h8 : g 14 0 0 8 ≤ 99) : wb (atS g) := by
  obtain ⟨h1, h2, h3⟩ := h
  refine ⟨by rw [at_x (by decide)]; exact h1, by unfold atS; rw [up_s]; omega, fun i h0 h6 => ?_⟩
  have := h3 i h0 h6
  unfold atS; rw [up_ff (by decide)]; exact this
theorem ro_15 {g : St} (h : wb g) : roG g 15 = g 15 := by funext k j x; exact (fw_ro h).2.2 15 k j x (by omega)
theorem rI_ro {g : St} (h : rI g) : rI (roG g) := by
  have e := ro_15 h.1
  exact ⟨(fw_ro h.1).1, by rw [e]; exact h.2.1, fun p h0 h4 => by rw [mUw_15 e]; exact h.2.2 p h0 h4⟩
theorem rI_do {g : St} (h : rI g) (hv : vO g) : rI (doM g) := ⟨wb_14 h.1 (f14_do h.2.1 hv), wm_do h.2.1 h.2.2 hv⟩
theorem rI_at {g : St} (h : rI g) (h8 : g 14 0 0 8 ≤ 99) : rI (atS g) := ⟨wb_at h.1 h8, by unfold atS; rw [up_ff (by decide)]; exact h.2.1, fun p h0 h4 => by rw [mUw_15 (show atS g 15 = g 15 from up_ff (by decide))]; exact h.2.2 p h0 h4⟩
def rnM : Nat → St → St × Int
  | 0, g => (g, 0)
  | n + 1, g => if ¬ g 14 0 0 8 < g 14 0 0 7 then (g, 0) else if roR g = 0 then (atS (roG g), 0) else if doR (roG g) = 0 then (atS (doM (roG g)), 0) else ((rnM n (atS (doM (roG g)))).1, 1 + (rnM n (atS (doM (roG g)))).2)
theorem rnM_e {g : St} (h : g 14 0 0 7 ≤ g 14 0 0 8) : ∀ n : Nat, rnM n g = (g, 0)
  | 0 => rfl
  | n + 1 => by rw [rnM, if_pos (by omega)]
theorem doR_01 (g : St) : doR g = 0 ∨ doR g = 1 := by unfold doR; (repeat' split) <;> simp
def rn0 (g : St) : St := up (svM (fe 61 (up (t0 g) 14 0 0 8 0)).1) 14 0 0 8 0

theorem rn0_I {g : St} (hb : wb g) (hm : wm (g 15 0 0) 1) (h6 : n6M g) : rI (rn0 g) := by
  have hfe := (fe_in 61 (wb_up8 (show wb (t0 g) from wb_up hb (by decide) (by decide)))).1
  have f15 : rn0 g 15 = g 15 := by
    unfold rn0; rw [up_ff (by decide), svM_f _ (by decide) (by decide)]
    funext k j x; rw [hfe.2.2 15 k j x (by omega), up_ff (by decide), t0_f (by decide)]
  refine ⟨?_, by rw [f15]; exact hm, fun p h0 h4 => by rw [mUw_15 f15]; exact h6 p h0 h4⟩
  have hw := hfe.1
  have e19 : rn0 g 19 = (fe 61 (up (t0 g) 14 0 0 8 0)).1 19 := by unfold rn0; rw [up_ff (by decide), svM_f _ (by decide) (by decide)]
  have e7 : rn0 g 14 0 0 7 = (fe 61 (up (t0 g) 14 0 0 8 0)).1 14 0 0 7 := by
    unfold rn0; rw [up_i (by decide)]
    unfold svM; rw [up_i (by decide)]; simp only [cpM]; rw [if_neg (by omega)]
    unfold svA; split
    · rw [up_i (by decide)]; simp only [shM]; rw [if_neg (by omega)]
    · rfl
  have e8 : rn0 g 14 0 0 8 = 0 := up_s
  unfold wb at *
  rw [e19, e7, e8]
  exact ⟨hw.1, by decide, hw.2.2⟩

theorem cw_RX7_148 : CW RX7 148 RX7 yX7_doesOrder cX7_doesOrder 2 (some .boolean) 0 := ⟨u_22_9, u_22_10, u_22_11, u_1_5, u_22_12, by decide +kernel⟩
set_option maxHeartbeats 4000000 in
set_option maxRecDepth 100000 in
theorem ct_X7_run (l : Launch) (L : Lay) (g : St) (hb : wb g) (hm : wm (g 15 0 0) 1) (h6 : n6M g) (h3 : 0 ≤ g 14 0 0 3 ∧ g 14 0 0 3 ≤ 6) : Met l yX7_run (.code yX7_run cX7_run 3 (some .int) :: wsL_law) { frames := 5, cells := 0, slots := 0, locals := 116 } (va_Pc [.ref (adr L 14 0 0)] (HS L g)) (va_Qi (fun (r9 : Int32) (u : St) => ∃ z : Int, r9 = iI z ∧ ((¬ (fe 61 (up (t0 g) 14 0 0 8 0)).2 = -1 ∧ u = up (fe 61 (up (t0 g) 14 0 0 8 0)).1 14 0 0 0 1 ∧ z = 0) ∨ ((fe 61 (up (t0 g) 14 0 0 8 0)).2 = -1 ∧ u = up (rnM 61 (rn0 g)).1 14 0 0 7 0 ∧ z = (rnM 61 (rn0 g)).2))) (fun u t => HS L u t) (Af L)) 0 0 (Af L) := by
  refine ct_mk (by decide +kernel) (Nat.le_of_ble_eq_true rfl) ?_
  intro pp ee ss mm bel mth cx C hr hlk
  show V pp l ee { frames := 5, cells := 0, slots := 0, locals := 116 } ss mm ([.ref (adr L 14 0 0)]).toArray bel mth cx 3 L (HH L g) 0 0 _ 0 [(0, .ref (adr L 14 0 0))] []
  have h0 : wb (t0 g) := wb_up hb (by decide) (by decide)
  have hfe := fe_in 61 (wb_up8 h0)
  obtain ⟨FE, hFE⟩ : ∃ q, q = fe 61 (up (t0 g) 14 0 0 8 0) := ⟨_, rfl⟩
  rw [← hFE] at hfe
  have f15 : FE.1 15 = g 15 := (by funext k j x; rw [hfe.1.2.2 15 k j x (by omega), up_ff (by decide), t0_f (by decide)])
  have f3 : FE.1 14 0 0 3 = g 14 0 0 3 := (by rw [hfe.1.2.2 14 0 0 3 (by decide), up_i (by decide), t0_3])
  obtain ⟨RN, hRN⟩ : ∃ q, q = rnM 61 (rn0 g) := ⟨_, rfl⟩
  have hr0 : rI (rn0 g) := rn0_I hb hm h6
  have hr8 : rn0 g 14 0 0 8 = 0 := up_s
  refine v_aload_n (pc := 0) C 0 rfl rfl dX7_run_0 ?_
  refine v_iconst (pc := 1) C dX7_run_1 ?_
  refine pt_14_0 (pc := 2) C u_8_10 dX7_run_2 ?_
  refine v_st (g2 := t0 g) C (rfl) ?_
  refine v_aload_n (pc := 5) C 0 rfl rfl dX7_run_5 ?_
  refine v_calliV (pc := 6) C cw_RX7_145 rcv_14 (ct_X7_findError l L (t0 g) (by first | assumption | omega | (unfold rg; omega))) ⟨Nat.le_of_ble_eq_true rfl, Nat.le_of_ble_eq_true rfl⟩ rfl (Nat.le_of_ble_eq_true rfl) ⟨Nat.le_of_ble_eq_true rfl, Nat.le_of_ble_eq_true rfl⟩ rfl dX7_run_6 (fun r9 u9 hP_1 => ?_)
  obtain ⟨hP_1, hP_1b⟩ := hP_1
  rw [hP_1, hP_1b]
  clear hP_1 hP_1b r9 u9
  refine v_topi (b := FE.2) C (by rw [hFE]) ?_
  refine v_st (g2 := FE.1) C (by rw [hFE]) ?_
  refine v_iconst (pc := 9) C dX7_run_9 ?_
  refine v_icmp_eq (pc := 10) C 19 ⟨by (first | assumption | omega | (unfold rg; omega)), by (first | assumption | omega | (unfold rg; omega))⟩ ⟨by (first | assumption | omega | (unfold rg; omega)), by (first | assumption | omega | (unfold rg; omega))⟩ (by decide) dX7_run_10 (fun h10 => ?_) (fun h10 => ?_)
  · skip
    refine v_aload_n (pc := 19) C 0 rfl rfl dX7_run_19 ?_
    refine v_callvV (pc := 20) C cw_RX7_44 rcv_14 (ct_X7_save l L FE.1 (by rw [f3]; exact h3)) ⟨Nat.le_of_ble_eq_true rfl, Nat.le_of_ble_eq_true rfl⟩ rfl (Nat.le_of_ble_eq_true rfl) ⟨Nat.le_of_ble_eq_true rfl, Nat.le_of_ble_eq_true rfl⟩ rfl dX7_run_20 (fun u9 hP_2 => ?_)
    rw [hP_2]
    clear hP_2 u9
    refine v_st (g2 := svM FE.1) C (rfl) ?_
    refine v_aload_n (pc := 23) C 0 rfl rfl dX7_run_23 ?_
    refine v_iconst (pc := 24) C dX7_run_24 ?_
    refine pt_14_8 (pc := 25) C u_19_8 dX7_run_25 ?_
    refine v_st (g2 := rn0 g) C (by rw [hFE]; rfl) ?_
    refine v_iconst (pc := 28) C dX7_run_28 ?_
    refine v_istore_n (pc := 29) C [(1, .int (iI 0)), (0, .ref (adr L 14 0 0))] rfl (by decide) rfl dX7_run_29 ?_
    refine v_iconst (pc := 30) C dX7_run_30 ?_
    refine v_istore_n (pc := 31) C [(2, .int (iI 1)), (1, .int (iI 0)), (0, .ref (adr L 14 0 0))] rfl (by decide) rfl dX7_run_31 ?_
    have lb32 : ∀ (n9 : Nat) (v : St) (q : Int) (b : Int), (b = 0 ∨ b = 1) → (b = 1 → ((0 ≤ v 14 0 0 7 ∧ v 14 0 0 7 ≤ 60) ∧ (0 ≤ v 14 0 0 8 ∧ v 14 0 0 8 ≤ 61)) ∧ (v 14 0 0 8 < v 14 0 0 7 → rI v) ∧ ∃ n : Nat, 61 - v 14 0 0 8 ≤ n ∧ RN.1 = (rnM n v).1 ∧ RN.2 = q + (rnM n v).2) → (b = 0 → RN.1 = v ∧ RN.2 = q) → (2 * 61 - 2 * v 14 0 0 8 + b).toNat < n9 → V pp l ee { frames := 5, cells := 0, slots := 0, locals := 116 } ss mm ([.ref (adr L 14 0 0)]).toArray bel mth cx 3 L (HH L v) 0 0 (MQ bel (va_Qi (fun (r9 : Int32) (u : St) => ∃ z : Int, r9 = iI z ∧ ((¬ (fe 61 (up (t0 g) 14 0 0 8 0)).2 = -1 ∧ u = up (fe 61 (up (t0 g) 14 0 0 8 0)).1 14 0 0 0 1 ∧ z = 0) ∨ ((fe 61 (up (t0 g) 14 0 0 8 0)).2 = -1 ∧ u = up (rnM 61 (rn0 g)).1 14 0 0 7 0 ∧ z = (rnM 61 (rn0 g)).2))) (fun u t => HS L u t) (Af L)) ([.ref (adr L 14 0 0)]).toArray ss 0 0 (Af L)) 32 [(0, .ref (adr L 14 0 0)), (1, .int (iI q)), (2, .int (iI b))] [] := by
      intro n9
      induction n9 with
      | zero => intro v q b hb01 h1 h0 hm9; exact absurd hm9 (Nat.not_lt_zero _)
      | succ n9 ih9 =>
        intro v q b hb01 h1 h0 hm9
        have ih32 := ih9
        refine v_iload_n (pc := 32) C 2 rfl rfl dX7_run_32 ?_
        refine v_if_eq (pc := 33) C 92 ⟨by rcases hb01 with h | h <;> rw [h] <;> decide, by rcases hb01 with h | h <;> rw [h] <;> decide⟩ (by decide) dX7_run_33 (fun h33 => ?_) (fun h33 => ?_)
        · skip
          refine v_aload_n (pc := 92) C 0 rfl rfl dX7_run_92 ?_
          refine v_iconst (pc := 93) C dX7_run_93 ?_
          refine pt_14_7 (pc := 94) C u_17_16 dX7_run_94 ?_
          refine v_iload_n (pc := 97) C 1 rfl rfl dX7_run_97 ?_
          exact v_iret (pc := 98) C hr hlk (by first | exact ⟨_, rfl, Or.inr ⟨by rw [← hFE]; omega, by (rw [← hRN, (h0 (by omega)).1]), by (rw [← hRN, (h0 (by omega)).2])⟩⟩ | (rw [rnM_e (by omega)] at hr1 hr2; exact ⟨_, rfl, Or.inr ⟨by rw [← hFE]; omega, by (rw [← hRN, hr1]), by (rw [← hRN, hr2]; show q = q + 0; omega)⟩⟩)) dX7_run_98
        · skip
          obtain ⟨⟨hl7, hl8⟩, hI0, n, hn, hr1, hr2⟩ := h1 (by clear h1 h0; omega)
          clear h1 h0
          refine v_aload_n (pc := 36) C 0 rfl rfl dX7_run_36 ?_
          refine gt_14_8 (pc := 37) C u_19_8 dX7_run_37 (v 14 0 0 8) (rfl) ?_
          refine v_aload_n (pc := 40) C 0 rfl rfl dX7_run_40 ?_
          refine gt_14_7 (pc := 41) C u_17_16 dX7_run_41 (v 14 0 0 7) (rfl) ?_
          refine v_icmp_ge (pc := 44) C 92 ⟨by (first | assumption | omega | (unfold rg; omega)), by (first | assumption | omega | (unfold rg; omega))⟩ ⟨by (first | assumption | omega | (unfold rg; omega)), by (first | assumption | omega | (unfold rg; omega))⟩ (by decide) dX7_run_44 (fun h44 => ?_) (fun h44 => ?_)
          · skip
            refine v_aload_n (pc := 92) C 0 rfl rfl dX7_run_92 ?_
            refine v_iconst (pc := 93) C dX7_run_93 ?_
            refine pt_14_7 (pc := 94) C u_17_16 dX7_run_94 ?_
            refine v_iload_n (pc := 97) C 1 rfl rfl dX7_run_97 ?_
            exact v_iret (pc := 98) C hr hlk (by first | exact ⟨_, rfl, Or.inr ⟨by rw [← hFE]; omega, by (rw [← hRN, (h0 (by omega)).1]), by (rw [← hRN, (h0 (by omega)).2])⟩⟩ | (rw [rnM_e (by omega)] at hr1 hr2; exact ⟨_, rfl, Or.inr ⟨by rw [← hFE]; omega, by (rw [← hRN, hr1]), by (rw [← hRN, hr2]; show q = q + 0; omega)⟩⟩)) dX7_run_98
          · skip
            have hI := hI0 (by omega)
            obtain ⟨n, rfl⟩ : ∃ q, n = q + 1 := ⟨n - 1, by omega⟩
            rw [rnM, if_neg (by omega)] at hr1 hr2
            have hJ := rI_ro hI
            have hw8 := (fw_ro hI.1).2.1
            have hw7 := (fw_ro hI.1).2.2 14 0 0 7 (by decide)
            have hrz := roR_01 v
            refine v_aload_n (pc := 47) C 0 rfl rfl dX7_run_47 ?_
            refine v_calliV (pc := 48) C cw_RX7_142 rcv_14 (ct_X7_readsOrder l L v (by exact hI.1)) ⟨Nat.le_of_ble_eq_true rfl, Nat.le_of_ble_eq_true rfl⟩ rfl (Nat.le_of_ble_eq_true rfl) ⟨Nat.le_of_ble_eq_true rfl, Nat.le_of_ble_eq_true rfl⟩ rfl dX7_run_48 (fun r9 u9 hP_3 => ?_)
            obtain ⟨hP_3, hP_3b⟩ := hP_3
            rw [hP_3, hP_3b]
            clear hP_3 hP_3b r9 u9
            refine v_if_eq (pc := 51) C 65 ⟨by (first | assumption | omega | (unfold rg; omega)), by (first | assumption | omega | (unfold rg; omega))⟩ (by decide) dX7_run_51 (fun h51 => ?_) (fun h51 => ?_)
            · skip
              refine v_iconst (pc := 65) C dX7_run_65 ?_
              refine v_istore_n (pc := 66) C [(2, .int (iI 0)), (0, .ref (adr L 14 0 0)), (1, .int (iI q))] rfl (by decide) rfl dX7_run_66 ?_
              refine v_iload_n (pc := 67) C 2 rfl rfl dX7_run_67 ?_
              refine v_iload_n (pc := 68) C 0 rfl rfl dX7_run_68 ?_
              refine v_if_eq (pc := 69) C 76 ⟨by (first | assumption | omega | (unfold rg; omega)), by (first | assumption | omega | (unfold rg; omega))⟩ (by decide) dX7_run_69 (fun h69 => ?_) (fun h69 => ?_)
              · skip
                refine v_iconst (pc := 76) C dX7_run_76 ?_
                refine v_iadd (pc := 77) C dX7_run_77 ?_
                refine v_istore_n (pc := 78) C [(1, .int (iI (q + 0))), (2, .int (iI 0)), (0, .ref (adr L 14 0 0))] rfl (by decide) rfl dX7_run_78 ?_
                refine v_aload_n (pc := 79) C 2 rfl rfl dX7_run_79 ?_
                refine v_dup (pc := 80) C rfl dX7_run_80 ?_
                refine gt_14_8 (pc := 81) C u_19_8 dX7_run_81 ((roG v) 14 0 0 8) (rfl) ?_
                refine v_iconst (pc := 84) C dX7_run_84 ?_
                refine v_iadd (pc := 85) C dX7_run_85 ?_
                refine pt_14_8 (pc := 86) C u_19_8 dX7_run_86 ?_
                refine v_goto (pc := 89) C 32 (by decide) dX7_run_89 ?_
                refine v_lsub [2, 0, 1] rfl ?_
                exact ih32 (up (roG v) 14 0 0 8 (((roG v) 14 0 0 8) + 1)) (q + 0) 0 (by omega) (by intro hx; first | exact absurd hx (by decide) | exact ⟨⟨by (have := hD.1.1; show 0 ≤ atS (doM (roG v)) 14 0 0 7 ∧ atS (doM (roG v)) 14 0 0 7 ≤ 60; rw [at_x (by decide)]; exact this), by (show 0 ≤ atS (doM (roG v)) 14 0 0 8 ∧ atS (doM (roG v)) 14 0 0 8 ≤ 61; have := hD.1.2.1; unfold atS; rw [up_s]; omega)⟩, fun _ => rI_at hD (by omega), n, by (show 61 - atS (doM (roG v)) 14 0 0 8 ≤ _; unfold atS; rw [up_s]; omega), by (rw [hr1, if_neg h51, if_neg h58] <;> rfl), by (rw [hr2, if_neg h51, if_neg h58]; show q + (1 + (rnM n (atS (doM (roG v)))).2) = q + 1 + (rnM n (atS (doM (roG v)))).2; omega)⟩) (by intro hx; first | exact absurd hx (by decide) | exact ⟨by (rw [hr1, if_pos h51] <;> rfl), by (rw [hr2, if_pos h51] <;> rfl)⟩ | exact ⟨by (rw [hr1, if_neg h51, if_pos h58] <;> rfl), by (rw [hr2, if_neg h51, if_pos h58] <;> rfl)⟩) (by rw [up_s]; omega)
              · skip
                exfalso; omega
            · skip
              have hv := vO_ro hI.1 h51
              have hD := rI_do hJ hv
              have hd8 := (f14_do hJ.2.1 hv).1 8 (by decide) (by decide)
              have hd7 := (f14_do hJ.2.1 hv).1 7 (by decide) (by decide)
              have hdz := doR_01 (roG v)
              refine v_aload_n (pc := 54) C 0 rfl rfl dX7_run_54 ?_
              refine v_calliV (pc := 55) C cw_RX7_148 rcv_14 (ct_X7_doesOrder l L (roG v) (by exact hJ.2.1) (by exact hv.1) (by exact hv.2.1) (by exact hv.2.2.1) (by exact hv.2.2.2) (by exact n6_room hJ.2.1 hJ.2.2)) ⟨Nat.le_of_ble_eq_true rfl, Nat.le_of_ble_eq_true rfl⟩ rfl (Nat.le_of_ble_eq_true rfl) ⟨Nat.le_of_ble_eq_true rfl, Nat.le_of_ble_eq_true rfl⟩ rfl dX7_run_55 (fun r9 u9 hP_4 => ?_)
              obtain ⟨hP_4, hP_4b⟩ := hP_4
              rw [hP_4, hP_4b]
              clear hP_4 hP_4b r9 u9
              refine v_if_eq (pc := 58) C 65 ⟨by (first | assumption | omega | (unfold rg; omega)), by (first | assumption | omega | (unfold rg; omega))⟩ (by decide) dX7_run_58 (fun h58 => ?_) (fun h58 => ?_)
              · skip
                refine v_iconst (pc := 65) C dX7_run_65 ?_
                refine v_istore_n (pc := 66) C [(2, .int (iI 0)), (0, .ref (adr L 14 0 0)), (1, .int (iI q))] rfl (by decide) rfl dX7_run_66 ?_
                refine v_iload_n (pc := 67) C 2 rfl rfl dX7_run_67 ?_
                refine v_iload_n (pc := 68) C 0 rfl rfl dX7_run_68 ?_
                refine v_if_eq (pc := 69) C 76 ⟨by (first | assumption | omega | (unfold rg; omega)), by (first | assumption | omega | (unfold rg; omega))⟩ (by decide) dX7_run_69 (fun h69 => ?_) (fun h69 => ?_)
                · skip
                  refine v_iconst (pc := 76) C dX7_run_76 ?_
                  refine v_iadd (pc := 77) C dX7_run_77 ?_
                  refine v_istore_n (pc := 78) C [(1, .int (iI (q + 0))), (2, .int (iI 0)), (0, .ref (adr L 14 0 0))] rfl (by decide) rfl dX7_run_78 ?_
                  refine v_aload_n (pc := 79) C 2 rfl rfl dX7_run_79 ?_
                  refine v_dup (pc := 80) C rfl dX7_run_80 ?_
                  refine gt_14_8 (pc := 81) C u_19_8 dX7_run_81 ((doM (roG v)) 14 0 0 8) (rfl) ?_
                  refine v_iconst (pc := 84) C dX7_run_84 ?_
                  refine v_iadd (pc := 85) C dX7_run_85 ?_
                  refine pt_14_8 (pc := 86) C u_19_8 dX7_run_86 ?_
                  refine v_goto (pc := 89) C 32 (by decide) dX7_run_89 ?_
                  refine v_lsub [2, 0, 1] rfl ?_
                  exact ih32 (up (doM (roG v)) 14 0 0 8 (((doM (roG v)) 14 0 0 8) + 1)) (q + 0) 0 (by omega) (by intro hx; first | exact absurd hx (by decide) | exact ⟨⟨by (have := hD.1.1; show 0 ≤ atS (doM (roG v)) 14 0 0 7 ∧ atS (doM (roG v)) 14 0 0 7 ≤ 60; rw [at_x (by decide)]; exact this), by (show 0 ≤ atS (doM (roG v)) 14 0 0 8 ∧ atS (doM (roG v)) 14 0 0 8 ≤ 61; have := hD.1.2.1; unfold atS; rw [up_s]; omega)⟩, fun _ => rI_at hD (by omega), n, by (show 61 - atS (doM (roG v)) 14 0 0 8 ≤ _; unfold atS; rw [up_s]; omega), by (rw [hr1, if_neg h51, if_neg h58] <;> rfl), by (rw [hr2, if_neg h51, if_neg h58]; show q + (1 + (rnM n (atS (doM (roG v)))).2) = q + 1 + (rnM n (atS (doM (roG v)))).2; omega)⟩) (by intro hx; first | exact absurd hx (by decide) | exact ⟨by (rw [hr1, if_pos h51] <;> rfl), by (rw [hr2, if_pos h51] <;> rfl)⟩ | exact ⟨by (rw [hr1, if_neg h51, if_pos h58] <;> rfl), by (rw [hr2, if_neg h51, if_pos h58] <;> rfl)⟩) (by rw [up_s]; omega)
                · skip
                  exfalso; omega
              · skip
                refine v_iconst (pc := 61) C dX7_run_61 ?_
                refine v_goto (pc := 62) C 66 (by decide) dX7_run_62 ?_
                refine v_istore_n (pc := 66) C [(2, .int (iI 1)), (0, .ref (adr L 14 0 0)), (1, .int (iI q))] rfl (by decide) rfl dX7_run_66 ?_
                refine v_iload_n (pc := 67) C 2 rfl rfl dX7_run_67 ?_
                refine v_iload_n (pc := 68) C 0 rfl rfl dX7_run_68 ?_
                refine v_if_eq (pc := 69) C 76 ⟨by (first | assumption | omega | (unfold rg; omega)), by (first | assumption | omega | (unfold rg; omega))⟩ (by decide) dX7_run_69 (fun h69 => ?_) (fun h69 => ?_)
                · skip
                  exfalso; omega
                · skip
                  refine v_iconst (pc := 72) C dX7_run_72 ?_
                  refine v_goto (pc := 73) C 77 (by decide) dX7_run_73 ?_
                  refine v_iadd (pc := 77) C dX7_run_77 ?_
                  refine v_istore_n (pc := 78) C [(1, .int (iI (q + 1))), (2, .int (iI 1)), (0, .ref (adr L 14 0 0))] rfl (by decide) rfl dX7_run_78 ?_
                  refine v_aload_n (pc := 79) C 2 rfl rfl dX7_run_79 ?_
                  refine v_dup (pc := 80) C rfl dX7_run_80 ?_
                  refine gt_14_8 (pc := 81) C u_19_8 dX7_run_81 ((doM (roG v)) 14 0 0 8) (rfl) ?_
                  refine v_iconst (pc := 84) C dX7_run_84 ?_
                  refine v_iadd (pc := 85) C dX7_run_85 ?_
                  refine pt_14_8 (pc := 86) C u_19_8 dX7_run_86 ?_
                  refine v_goto (pc := 89) C 32 (by decide) dX7_run_89 ?_
                  refine v_lsub [2, 0, 1] rfl ?_
                  exact ih32 (up (doM (roG v)) 14 0 0 8 (((doM (roG v)) 14 0 0 8) + 1)) (q + 1) 1 (by omega) (by intro hx; first | exact absurd hx (by decide) | exact ⟨⟨by (have := hD.1.1; show 0 ≤ atS (doM (roG v)) 14 0 0 7 ∧ atS (doM (roG v)) 14 0 0 7 ≤ 60; rw [at_x (by decide)]; exact this), by (show 0 ≤ atS (doM (roG v)) 14 0 0 8 ∧ atS (doM (roG v)) 14 0 0 8 ≤ 61; have := hD.1.2.1; unfold atS; rw [up_s]; omega)⟩, fun _ => rI_at hD (by omega), n, by (show 61 - atS (doM (roG v)) 14 0 0 8 ≤ _; unfold atS; rw [up_s]; omega), by (rw [hr1, if_neg h51, if_neg h58] <;> rfl), by (rw [hr2, if_neg h51, if_neg h58]; show q + (1 + (rnM n (atS (doM (roG v)))).2) = q + 1 + (rnM n (atS (doM (roG v)))).2; omega)⟩) (by intro hx; first | exact absurd hx (by decide) | exact ⟨by (rw [hr1, if_pos h51] <;> rfl), by (rw [hr2, if_pos h51] <;> rfl)⟩ | exact ⟨by (rw [hr1, if_neg h51, if_pos h58] <;> rfl), by (rw [hr2, if_neg h51, if_pos h58] <;> rfl)⟩) (by rw [up_s]; omega)
    refine v_lsub [2, 1, 0] rfl ?_
    exact lb32 _ (rn0 g) 0 1 (by omega) (by intro _; exact ⟨⟨hr0.1.1, by omega⟩, fun _ => hr0, 61, by omega, by rw [hRN], by rw [hRN]; omega⟩) (by intro hx; exact absurd hx (by decide)) (Nat.lt_succ_self _)
  · skip
    refine v_aload_n (pc := 13) C 0 rfl rfl dX7_run_13 ?_
    refine v_iconst (pc := 14) C dX7_run_14 ?_
    refine v_calliV (pc := 15) C cw_RX7_40 rcv_14 (ct_X7_fails l L FE.1 1 ) ⟨Nat.le_of_ble_eq_true rfl, Nat.le_of_ble_eq_true rfl⟩ rfl (Nat.le_of_ble_eq_true rfl) ⟨Nat.le_of_ble_eq_true rfl, Nat.le_of_ble_eq_true rfl⟩ rfl dX7_run_15 (fun r9 u9 hP_5 => ?_)
    obtain ⟨hP_5, hP_5b⟩ := hP_5
    rw [hP_5, hP_5b]
    clear hP_5 hP_5b r9 u9
    exact v_iret (pc := 18) C hr hlk (⟨_, rfl, Or.inl ⟨by rw [← hFE]; omega, by rw [← hFE], rfl⟩⟩) dX7_run_18
