/-! class and reference: the strong tie, which keeps the order of echoes too -/
def tieS (g : St) (k : Int) (m : St) : Prop := tie g k m ∧ els g k = srt (mls m) ∧ 0 ≤ m 15 0 0 9 ∧ m 15 0 0 8 = 2 * sumM m 2
theorem tieS_n {g m : St} {k d : Int} (hw : wf g k d) (h : tieS g k m) : g 1 k 0 2 = m 15 0 0 9 := by
  have e := h.1.2.2.2.2.length_eq
  rw [els_len, mls_len] at e
  have a := hw.2.2.2.2.2.2.2.1
  have b := h.2.2.1
  omega
theorem wm_of {g m : St} {k d : Int} (hw : wf g k d) (h : tieS g k m) : wm (m 15 0 0) d := by
  have hn := tieS_n hw h
  obtain ⟨⟨⟨s0, s1, s2⟩, ⟨r3, r4, r5, r6⟩, r7, rp, hq⟩, -, -, -⟩ := h
  obtain ⟨hS0, hS1, hS2, hB0, hB1, hB2, hCl, hN, hPl, hPm, hPj, hEc, hSo⟩ := hw
  refine ⟨by omega, by omega, by omega, by omega, by omega, by omega, by omega, by omega, fun p a b => ?_, fun e h0 h1 => ?_⟩
  · have h1 := hPl p a b
    have h2 := rp p 0 a b (by decide) (by decide)
    omega
  · have me : mev m e ∈ els g k := hq.mem_iff.mpr (List.mem_map.mpr ⟨e.toNat, List.mem_range.mpr (by omega), by rw [show ((e.toNat : Nat) : Int) = e by omega]⟩)
    obtain ⟨i, hi, hx⟩ := els_mem me
    have o := hEc i (by omega) (by omega)
    have c0 : m 15 0 0 (34 + 5 * e + 0) = eF g k i 0 := congrArg (fun x : E5 => x.1) hx
    have c1 : m 15 0 0 (34 + 5 * e + 1) = eF g k i 1 := congrArg (fun x : E5 => x.2.1) hx
    have c2 : m 15 0 0 (34 + 5 * e + 2) = eF g k i 2 := congrArg (fun x : E5 => x.2.2.1) hx
    have c3 : m 15 0 0 (34 + 5 * e + 3) = eF g k i 3 := congrArg (fun x : E5 => x.2.2.2.1) hx
    have c4 : m 15 0 0 (34 + 5 * e + 4) = eF g k i 4 := congrArg (fun x : E5 => x.2.2.2.2) hx
    unfold okE at o
    unfold eF at c0 c1 c2 c3 c4
    unfold okM
    omega
abbrev k2x (x : Int) : Prop := x = 7 ∨ x = 8 ∨ x = 12 ∨ x = 18 ∨ x = 24 ∨ x = 30
theorem cb_79 {u : St} {e a x : Int} (h : k2x x) (hx : 0 ≤ u 15 0 0 (34 + 5 * e + 0) ∧ u 15 0 0 (34 + 5 * e + 0) < 4) : cbG u e a 15 0 0 x = u 15 0 0 x := by
  have hk := cbK_in u e a
  unfold k2x at h
  unfold cbG; split
  · rw [up_i (by omega), up_i (by omega), cb2_i (by omega) (by omega)]
  · rw [cb1_i (by omega)]
theorem tpE_79 {u : St} {p a x : Int} (hx : k2x x) (h : wm (u 15 0 0) 0) : ∀ n : Nat, (n : Int) ≤ u 15 0 0 9 → (tpE u p a n).1 15 0 0 x = u 15 0 0 x
  | 0, _ => rfl
  | n + 1, hn => by
    have ih := tpE_79 (p := p) (a := a) hx h n (by omega)
    have hi := tpE_in (p := p) (a := a) h n (by omega)
    have h9 := hi.1.2.1 9 (by decide)
    have ho := hi.1.1.2.2.2.2.2.2.2.2.2 n (by omega) (by omega)
    unfold okM at ho
    rw [tpE]; split
    · exact (cb_79 hx ho.1).trans ih
    · exact ih
theorem tpP_79 {h : St} {x : Int} (hx : k2x x) (hw : wm (h 15 0 0) 0) : ∀ n : Nat, (tpP h n).1 15 0 0 x = h 15 0 0 x
  | 0 => rfl
  | n + 1 => by
    have ih := tpP_79 hx hw n
    have hi := tpP_in hw n
    have h9 := hi.1.2.1 9 (by decide)
    have hN := hw.2.2.2.2.2.2.2.1
    rw [tpP]
    exact (tpE_79 hx hi.1.1 _ (by omega)).trans ih
theorem tu_79 {m : St} {x : Int} (hm : wm (m 15 0 0) 1) (hc : m 15 0 0 3 + 1 ≤ 100000) (hx : k2x x) : (tuM m).1 15 0 0 x = m 15 0 0 x := by
  have hmc := wm_mt hm hc
  have q := tpP_79 hx hmc (m 15 0 0 0 + 1).toNat
  unfold k2x at hx
  show ddG (tpP (mtC m) (m 15 0 0 0 + 1).toNat).1 15 0 0 x = _
  unfold ddG
  rw [up_i (by omega), dpM_lo _ _ (by omega), q, mtC_x m (by omega) (by omega) (by omega)]
theorem mls_tu {m : St} (hm : wm (m 15 0 0) 1) (hc : m 15 0 0 3 + 1 ≤ 100000) : mls (tuM m).1 = (mls m).filter (fun x => decide (m 15 0 0 3 + 1 < x.2.2.2.1)) := by
  have hmc := wm_mt hm hc
  have tp := tpP_in hmc (m 15 0 0 0 + 1).toNat
  have tx := tp.1.2.1
  show mls (ddG (tpP (mtC m) (m 15 0 0 0 + 1).toNat).1) = _
  have e : mls (tpP (mtC m) (m 15 0 0 0 + 1).toNat).1 = mls m := (mls_x (fun x hx => tx x (by omega))).trans (mls_x (fun x hx => mtC_x m (by omega) (by omega) (by omega)))
  rw [mls_dd, tx 3 (by decide), mtC_3, e]
theorem els_tr {g u : St} {k z : Int} (hw : wf g k 1) (ht : tr g u k z) : els u k = (els g k).filter (fun x => decide (g 1 k 0 0 + 1 < x.2.2.2.1)) := by
  obtain ⟨b, hb, h1, h2, hz, hd⟩ := ht
  have hdt := due_take hw hb h1 h2
  have e1 : els (caN (tbG g k) k b.toNat).1 k = els g k := els_x (by rw [caN_f _ _ (by decide) (by decide), tbG_2]) (by rw [caN_f _ _ (by decide) (by decide), tbG_f _ _ (by decide) (by decide)]) (by rw [caN_f _ _ (by decide) (by decide), tbG_f _ _ (by decide) (by decide)])
  have n1 : (caN (tbG g k) k b.toNat).1 1 k 0 2 = g 1 k 0 2 := by rw [caN_f _ _ (by decide) (by decide), tbG_2]
  rw [els_drp (by omega) hd, e1, hdt.2]
theorem turn_S {g u m : St} {k z : Int} (hw : wf g k 1) (hc : m 15 0 0 3 + 1 ≤ 100000) (hR : tieS g k m) (ht : tr g u k z) : tieS u k (tuM m).1 ∧ z = (tuM m).2 := by
  have hm := wm_of hw hR
  have hg : g 1 k 0 0 = m 15 0 0 3 := hR.1.2.1.1
  have a := turn_tie hw hm hc hR.1 ht
  have t := tuM_in hm hc
  refine ⟨⟨a.1, ?_, t.1.2.2.2.2.2.2.2.1.1, ?_⟩, a.2⟩
  · rw [els_tr hw ht, mls_tu hm hc, hR.2.1, hg]
    exact srt_filter (fun x y hxy hx => decide_eq_true (by have := of_decide_eq_true hx; unfold dueE at hxy; omega)) (mls m)
  · have e := hR.2.2.2
    unfold sumM at e ⊢
    rw [tu_79 hm hc (x := 8) (by decide), tu_79 hm hc (x := 10 + 6 * 0 + 2) (by decide), tu_79 hm hc (x := 10 + 6 * 1 + 2) (by decide), tu_79 hm hc (x := 10 + 6 * 2 + 2) (by decide), tu_79 hm hc (x := 10 + 6 * 3 + 2) (by decide)]
    exact e
theorem trs_S : ∀ (n : Nat) {g u m : St} {z : Int}, wf g 0 1 → c6 g → m 15 0 0 3 + n ≤ 100000 → tieS g 0 m → trs 0 n g u z → tieS u 0 (tuN m n).1 ∧ z = (tuN m n).2
  | 0, g, u, m, z, _, _, _, hR, h => by
    obtain ⟨rfl, rfl⟩ := h; exact ⟨hR, rfl⟩
  | n + 1, g, u, m, z, hw, h6, hc, hR, h => by
    obtain ⟨v, y, x, h1, h2, rfl⟩ := h
    have hg : g 1 0 0 0 = m 15 0 0 3 := hR.1.2.1.1
    have a := trs_S n hw h6 (by omega) hR h1
    have o := trs_ok n hw h6 (by omega) h1
    have t := tuN_in (wm_of hw hR) n (by omega)
    have b := turn_S o.1 (by omega) a.1 h2
    rw [tuN]
    exact ⟨b.1, by show y + x = (tuN m n).2 + (tuM (tuN m n).1).2; rw [a.2, b.2]⟩
theorem mv_S {g m : St} {p b : Int} (hp : 0 ≤ p ∧ p < 4) (hR : tieS g 0 m) : tieS (mvG g 0 p b) 0 (mvGM m p b) ∧ mvR g 0 p b = mvRM m p b := by
  have a := mv_tie (b := b) hp hR.1
  obtain ⟨-, h2, h3, h4⟩ := hR
  have em : ∀ x, x ≠ 7 → (∀ q, x ≠ 10 + 6 * q + 0) → mvGM m p b 15 0 0 x = m 15 0 0 x := fun x a b => by
    unfold mvGM; split
    · exact up_i a
    · exact up_i (b p)
  have eg : els (mvG g 0 p b) 0 = els g 0 := by
    unfold mvG; split
    · exact els_x (up_i (by decide)) (up_ff (by decide)) (up_ff (by decide))
    · exact els_x (up_f (by decide)) (up_ff (by decide)) (up_ff (by decide))
  have eml : mls (mvGM m p b) = mls m := by
    unfold mvGM; split
    · exact mls_x (fun x hx => up_i (by omega))
    · exact mls_x (fun x hx => up_i (by omega))
  refine ⟨⟨a.1, by rw [eg, eml]; exact h2, by rw [em 9 (by decide) (fun q => by omega)]; exact h3, ?_⟩, a.2⟩
  unfold sumM at h4 ⊢
  rw [em 8 (by decide) (fun q => by omega), em _ (by decide) (fun q => by omega), em _ (by decide) (fun q => by omega), em _ (by decide) (fun q => by omega), em _ (by decide) (fun q => by omega)]
  exact h4
theorem els_adi {g : St} {k p w y a : Int} (hw : wf g k 1) (hn : g 1 k 0 2 < 24) (hc : adC g k p y a) : els (adG g k p w y a) k = ins (evn g k p w y) (els g k) := by
  have h1 := hc.1
  rw [els_ad hw hn hc.1]
  refine ins_at _ _ ?_ (fun i x hi hx => ?_) (fun i x hi hx => ?_)
  · rw [els_len]; omega
  · obtain ⟨hn, rfl⟩ := els_at hx
    exact ad_due hw hc (r := i) (by omega) (by omega)
  · obtain ⟨hn, rfl⟩ := els_at hx
    exact hc.2.2 i (by omega) (by omega)
theorem dc_8 {m : St} {p w : Int} (hp : 0 ≤ p ∧ p < 4) (hn : 0 ≤ m 15 0 0 9) (h : m 15 0 0 8 = 2 * sumM m 2) : dcG m p w 15 0 0 8 = 2 * sumM (dcG m p w) 2 := by
  have e8 : dcG m p w 15 0 0 8 = m 15 0 0 8 + 2 := by unfold dcG; rw [up_i (by omega), up_s]
  have ep : dcG m p w 15 0 0 (10 + 6 * p + 2) = m 15 0 0 (10 + 6 * p + 2) + 1 := by unfold dcG; rw [up_s]
  have eq : ∀ q, 0 ≤ q → q < 4 → q ≠ p → dcG m p w 15 0 0 (10 + 6 * q + 2) = m 15 0 0 (10 + 6 * q + 2) := fun q a b c => dcG_lo hp hn (by omega) (by omega) (by omega) (by omega)
  unfold sumM at h ⊢
  have : p = 0 ∨ p = 1 ∨ p = 2 ∨ p = 3 := by omega
  rcases this with rfl | rfl | rfl | rfl
  · rw [e8, ep, eq 1 (by decide) (by decide) (by decide), eq 2 (by decide) (by decide) (by decide), eq 3 (by decide) (by decide) (by decide)]; omega
  · rw [e8, ep, eq 0 (by decide) (by decide) (by decide), eq 2 (by decide) (by decide) (by decide), eq 3 (by decide) (by decide) (by decide)]; omega
  · rw [e8, ep, eq 0 (by decide) (by decide) (by decide), eq 1 (by decide) (by decide) (by decide), eq 3 (by decide) (by decide) (by decide)]; omega
  · rw [e8, ep, eq 0 (by decide) (by decide) (by decide), eq 1 (by decide) (by decide) (by decide), eq 2 (by decide) (by decide) (by decide)]; omega
theorem se_S {g u m : St} {p w z : Int} (hw : wf g 0 1) (h6 : c6 g) (hp : 0 ≤ p ∧ p < 4) (hw9 : 0 ≤ w ∧ w ≤ 9) (hR : tieS g 0 m) (h : se g u 0 p w z) : tieS u 0 (dcM m p w) ∧ z = dcR m p := by
  have hm := wm_of hw hR
  have at1 := se_tie hw h6 hm hp hw9 hR.1 h
  have hmd := wm_dc hm (c6_tie hR.1 h6) hp hw9
  have he := eOf_tie (p := p) hR.1
  have t0' := eT_tie (w := 0) hR.1 hp
  have t1' := eT_tie (w := 1) hR.1 hp
  have hN := hm.2.2.2.2.2.2.2.1
  refine ⟨⟨at1.1, ?_, hmd.2.2.2.2.2.2.2.1.1, ?_⟩, at1.2⟩
  · obtain ⟨⟨⟨s0, s1, s2⟩, ⟨r3, r4, r5, r6⟩, r7, rp, -⟩, hq, -, -⟩ := id hR
    have e0 := rp p 0 hp.1 hp.2 (by decide) (by decide)
    rcases h with ⟨h1, rfl, rfl⟩ | ⟨h1, rfl, a, b, ca, cb, rfl⟩
    · rw [he] at h1
      unfold dcM
      rw [if_pos h1, els_x (up_i (by decide)) (up_ff (by decide)) (up_ff (by decide)), mls_x (fun x hx => up_i (by omega))]; exact hq
    · have hr := c6_room hw h6 p hp.1 hp.2 h1
      have h1m : ¬ 6 < mUw m p + 2 := by rw [← he]; omega
      have w0 : wf (seG g 0 p) 0 1 := wf_up6 (by decide) hw
      have n0 : seG g 0 p 1 0 0 2 = g 1 0 0 2 := by rw [seG_f _ _ _ (by decide)]
      have w1 : wf (adG (seG g 0 p) 0 p w 0 a) 0 1 := adG_wf w0 hp hw9 (by decide) (by omega) ca
      have n1 : adG (seG g 0 p) 0 p w 0 a 1 0 0 2 = g 1 0 0 2 + 1 := by rw [ad1, if_pos rfl, n0]
      have g6 : seG g 0 p 6 0 p 0 = g 6 0 p 0 := up_i (by decide)
      have g2 : seG g 0 p 2 = g 2 := seG_f _ _ _ (by decide)
      have g1 : seG g 0 p 1 = g 1 := seG_f _ _ _ (by decide)
      have A6 : adG (seG g 0 p) 0 p w 0 a 6 = seG g 0 p 6 := adf _ _ _ _ _ _ (by decide) (by decide) (by decide)
      have A2 : adG (seG g 0 p) 0 p w 0 a 2 = seG g 0 p 2 := adf _ _ _ _ _ _ (by decide) (by decide) (by decide)
      have v0 : evn (seG g 0 p) 0 p w 0 = (p, m 15 0 0 (10 + 6 * p + 0), w, m 15 0 0 3 + mDl m (m 15 0 0 (10 + 6 * p + 0)) 0, 0) := by
        unfold evn; rw [g6, g1, eT_eq g2, t0', r3, e0]
      have v1 : evn (adG (seG g 0 p) 0 p w 0 a) 0 p w 1 = (p, m 15 0 0 (10 + 6 * p + 0), w, m 15 0 0 3 + mDl m (m 15 0 0 (10 + 6 * p + 0)) 1, 1) := by
        unfold evn; rw [A6, g6, ad1, if_neg (by decide), g1, eT_eq (A2.trans g2), t1', r3, e0]
      have a3 : adM m p w 0 15 0 0 3 = m 15 0 0 3 := ad_lo hN.1 (by decide) (by decide)
      have ap : adM m p w 0 15 0 0 (10 + 6 * p + 0) = m 15 0 0 (10 + 6 * p + 0) := ad_lo hN.1 (by omega) (by omega)
      have am : ∀ x y, mDl (adM m p w 0) x y = mDl m x y := fun x y => by
        show dly (adM m p w 0 15 0 0 0) (adM m p w 0 15 0 0 1) (adM m p w 0 15 0 0 2) x y = _
        rw [ad_lo hN.1 (by decide) (by decide), ad_lo hN.1 (by decide) (by decide), ad_lo hN.1 (by decide) (by decide)]
      have ml : mls (dcG m p w) = (mls m ++ [evn (seG g 0 p) 0 p w 0]) ++ [evn (adG (seG g 0 p) 0 p w 0 a) 0 p w 1] := by
        have q1 : mls (dcG m p w) = mls (dcA m p w) := mls_x (fun x hx => by unfold dcG; rw [up_i (by omega), up_i (by omega)])
        rw [q1]
        unfold dcA
        rw [mls_ad (by rw [ad_9]; omega), mls_ad hN.1, v0, v1, a3, ap, am]
      have qg : els (seG g 0 p) 0 = els g 0 := els_x n0 (seG_f _ _ _ (by decide)) (seG_f _ _ _ (by decide))
      unfold dcM
      rw [if_neg h1m, ml, srt_add, srt_add, els_adi w1 (by omega) cb, els_adi w0 (by omega) ca, qg, hq]
  · unfold dcM
    split
    · have h4 := hR.2.2.2
      unfold sumM at h4 ⊢
      rw [up_i (by decide), up_i (by decide), up_i (by decide), up_i (by decide), up_i (by decide)]
      exact h4
    · exact dc_8 hp hN.1 hR.2.2.2
theorem tieS_m {g m m2 : St} {k : Int} (h : m2 15 = m 15) (hR : tieS g k m) : tieS g k m2 := by
  unfold tieS tie sumM mls mev at *
  rw [h]; exact hR
/-- the echo of a rank, in both -/
theorem et_S {g m : St} {r w : Int} (hw : wf g 0 1) (hR : tieS g 0 m) (h0 : 0 ≤ r) (hr : 0 ≤ w ∧ w ≤ 5) : ecN g 0 r w = mEt m r w := by
  have hn := tieS_n hw hR
  have h3 : g 1 0 0 0 = m 15 0 0 3 := hR.1.2.1.1
  unfold ecN mEt
  rcases eaM_srt m hR.2.2.1 r h0 with ⟨a, b⟩ | ⟨a, i, hi, b, c⟩
  · rw [if_pos (by omega), b]; rfl
  · rw [if_neg (by omega), b]
    have hi1 : ¬ ((i : Nat) : Int) = -1 := by omega
    simp only []
    rw [if_neg hi1]
    rw [← hR.2.1, els_get, if_pos (by omega)] at c
    have e : ev g 0 (r.toNat : Nat) = mev m i := Option.some.inj c
    rw [show ((r.toNat : Nat) : Int) = r by omega] at e
    have c0 : eF g 0 r 0 = m 15 0 0 (34 + 5 * i + 0) := congrArg (fun x : E5 => x.1) e
    have c1 : eF g 0 r 1 = m 15 0 0 (34 + 5 * i + 1) := congrArg (fun x : E5 => x.2.1) e
    have c2 : eF g 0 r 2 = m 15 0 0 (34 + 5 * i + 2) := congrArg (fun x : E5 => x.2.2.1) e
    have c3 : eF g 0 r 3 = m 15 0 0 (34 + 5 * i + 3) := congrArg (fun x : E5 => x.2.2.2.1) e
    have c4 : eF g 0 r 4 = m 15 0 0 (34 + 5 * i + 4) := congrArg (fun x : E5 => x.2.2.2.2) e
    have hx : w = 0 ∨ w = 1 ∨ w = 2 ∨ w = 3 ∨ w = 4 ∨ w = 5 := by omega
    rcases hx with rfl | rfl | rfl | rfl | rfl | rfl
    · exact c0
    · exact c1
    · exact c2
    · show eF g 0 r 3 - g 1 0 0 0 = m 15 0 0 (34 + 5 * i + 3) - m 15 0 0 3
      rw [c3, h3]
    · exact c4
    · show (if eCl g 0 r then (1 : Int) else 0) = if 1 < mCo m (m 15 0 0 (34 + 5 * i + 1)) (m 15 0 0 (34 + 5 * i + 3)) then 1 else 0
      have q1 := eCl_els (g := g) (k := 0) h0 (by omega)
      have q2 := clM (h := m) (e := i) (by omega) (by omega)
      have q3 : 0 < mCo m (m 15 0 0 (34 + 5 * (i : Int) + 1)) (m 15 0 0 (34 + 5 * (i : Int) + 3)) := cn_pos (i := i) (by omega) (by omega) (by simp [mDu])
      rw [clL_perm hR.1.2.2.2.2, e] at q1
      by_cases hc : eCl g 0 r
      · have := q2.mp (q1.mp hc)
        rw [if_pos hc, if_pos (by omega)]
      · have : ¬ ¬ mCo m (m 15 0 0 (34 + 5 * (i : Int) + 1)) (m 15 0 0 (34 + 5 * (i : Int) + 3)) = 1 := fun hx => hc (q1.mpr (q2.mpr hx))
        rw [if_neg hc, if_neg (by omega)]
