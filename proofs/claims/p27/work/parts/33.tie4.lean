/-! class and reference: a call -/
theorem se_tie {g u m : St} {p w z : Int} (hw : wf g 0 1) (h6 : c6 g) (hm : wm (m 15 0 0) 1) (hp : 0 ≤ p ∧ p < 4) (hw9 : 0 ≤ w ∧ w ≤ 9) (hR : tie g 0 m) (h : se g u 0 p w z) : tie u 0 (dcM m p w) ∧ z = dcR m p := by
  have he := eOf_tie (p := p) hR
  have t0' := eT_tie (w := 0) hR hp
  have t1' := eT_tie (w := 1) hR hp
  have hN := hm.2.2.2.2.2.2.2.1
  obtain ⟨⟨s0, s1, s2⟩, ⟨r3, r4, r5, r6⟩, r7, rp, hq⟩ := id hR
  have e0 := rp p 0 hp.1 hp.2 (by decide) (by decide)
  rcases h with ⟨h1, rfl, rfl⟩ | ⟨h1, rfl, a, b, ca, cb, rfl⟩
  · rw [he] at h1
    unfold dcM dcR
    rw [if_pos h1, if_pos h1]
    refine ⟨⟨⟨?_, ?_, ?_⟩, ⟨?_, ?_, ?_, ?_⟩, ?_, fun q x p0 p4 x0 x6 => ?_, ?_⟩, rfl⟩
    · rw [up_f (by decide), up_i (by decide), s0]
    · rw [up_f (by decide), up_i (by decide), s1]
    · rw [up_f (by decide), up_i (by decide), s2]
    · rw [up_i (by decide), up_i (by decide), r3]
    · rw [up_f (by decide), up_i (by decide), r4]
    · rw [up_f (by decide), up_i (by decide), r5]
    · rw [up_f (by decide), up_i (by decide), r6]
    · rw [up_s, up_s, r7]
    · rw [up_f (by decide), up_i (by omega), rp q x p0 p4 x0 x6]
    · rw [els_x (up_i (by decide)) (up_ff (by decide)) (up_ff (by decide)), mls_x (fun x hx => up_i (by omega))]; exact hq
  · have hr := c6_room hw h6 p hp.1 hp.2 h1
    have h1m : ¬ 6 < mUw m p + 2 := by rw [← he]; omega
    have w0 : wf (seG g 0 p) 0 1 := wf_up6 (by decide) hw
    have n0 : seG g 0 p 1 0 0 2 = g 1 0 0 2 := by rw [seG_f _ _ _ (by decide)]
    have w1 : wf (adG (seG g 0 p) 0 p w 0 a) 0 1 := adG_wf w0 hp hw9 (by decide) (by omega) ca
    have n1 : adG (seG g 0 p) 0 p w 0 a 1 0 0 2 = g 1 0 0 2 + 1 := by rw [ad1, if_pos rfl, n0]
    have g6 : seG g 0 p 6 0 p 0 = g 6 0 p 0 := up_i (by decide)
    have g2 : seG g 0 p 2 = g 2 := seG_f _ _ _ (by decide)
    have g1 : seG g 0 p 1 = g 1 := seG_f _ _ _ (by decide)
    have A6 : adG (seG g 0 p) 0 p w 0 a 6 = seG g 0 p 6 := adf _ _ _ _ _ _ (by decide) (by decide) (by decide)
    have A2 : adG (seG g 0 p) 0 p w 0 a 2 = seG g 0 p 2 := adf _ _ _ _ _ _ (by decide) (by decide) (by decide)
    have uf : ∀ f : Nat, f ≠ 1 → f ≠ 5 → f ≠ 7 → adG (adG (seG g 0 p) 0 p w 0 a) 0 p w 1 b f = seG g 0 p f := fun f x y z => by rw [adf _ _ _ _ _ _ x y z, adf _ _ _ _ _ _ x y z]
    have u1 : ∀ i, i ≠ 2 → adG (adG (seG g 0 p) 0 p w 0 a) 0 p w 1 b 1 0 0 i = g 1 0 0 i := fun i hi => by rw [ad1, if_neg hi, ad1, if_neg hi, g1]
    have v0 : evn (seG g 0 p) 0 p w 0 = (p, m 15 0 0 (10 + 6 * p + 0), w, m 15 0 0 3 + mDl m (m 15 0 0 (10 + 6 * p + 0)) 0, 0) := by
      unfold evn; rw [g6, g1, eT_eq g2, t0', r3, e0]
    have v1 : evn (adG (seG g 0 p) 0 p w 0 a) 0 p w 1 = (p, m 15 0 0 (10 + 6 * p + 0), w, m 15 0 0 3 + mDl m (m 15 0 0 (10 + 6 * p + 0)) 1, 1) := by
      unfold evn; rw [A6, g6, ad1, if_neg (by decide), g1, eT_eq (A2.trans g2), t1', r3, e0]
    have a3 : adM m p w 0 15 0 0 3 = m 15 0 0 3 := ad_lo hN.1 (by decide) (by decide)
    have ap : adM m p w 0 15 0 0 (10 + 6 * p + 0) = m 15 0 0 (10 + 6 * p + 0) := ad_lo hN.1 (by omega) (by omega)
    have am : ∀ x y, mDl (adM m p w 0) x y = mDl m x y := fun x y => by
      show dly (adM m p w 0 15 0 0 0) (adM m p w 0 15 0 0 1) (adM m p w 0 15 0 0 2) x y = _
      rw [ad_lo hN.1 (by decide) (by decide), ad_lo hN.1 (by decide) (by decide), ad_lo hN.1 (by decide) (by decide)]
    have ml : mls (dcG m p w) = (mls m ++ [evn (seG g 0 p) 0 p w 0]) ++ [evn (adG (seG g 0 p) 0 p w 0 a) 0 p w 1] := by
      have q1 : mls (dcG m p w) = mls (dcA m p w) := mls_x (fun x hx => by unfold dcG; rw [up_i (by omega), up_i (by omega)])
      rw [q1]
      unfold dcA
      rw [mls_ad (by rw [ad_9]; omega), mls_ad hN.1, v0, v1, a3, ap, am]
    have el : (els (adG (adG (seG g 0 p) 0 p w 0 a) 0 p w 1 b) 0).Perm ((els g 0 ++ [evn (seG g 0 p) 0 p w 0]) ++ [evn (adG (seG g 0 p) 0 p w 0 a) 0 p w 1]) := by
      have q1 := els_ad (p := p) (w := w) (y := 1) (a := b) w1 (by omega) cb.1
      have q0 := els_ad (p := p) (w := w) (y := 0) (a := a) w0 (by omega) ca.1
      have qg : els (seG g 0 p) 0 = els g 0 := els_x n0 (seG_f _ _ _ (by decide)) (seG_f _ _ _ (by decide))
      rw [q1]
      refine List.perm_middle.trans ?_
      rw [List.take_append_drop]
      refine List.Perm.trans ?_ (List.perm_append_singleton _ _).symm
      refine List.Perm.cons _ ?_
      rw [q0]
      refine List.perm_middle.trans ?_
      rw [List.take_append_drop, qg]
      exact (List.perm_append_singleton _ _).symm
    unfold dcM dcR
    rw [if_neg h1m, if_neg h1m]
    refine ⟨⟨⟨?_, ?_, ?_⟩, ⟨?_, ?_, ?_, ?_⟩, ?_, fun q x p0 p4 x0 x6 => ?_, ?_⟩, ?_⟩
    · rw [uf 2 (by decide) (by decide) (by decide), g2, dcG_lo hp hN.1 (by decide) (by decide) (by decide) (by omega), s0]
    · rw [uf 2 (by decide) (by decide) (by decide), g2, dcG_lo hp hN.1 (by decide) (by decide) (by decide) (by omega), s1]
    · rw [uf 2 (by decide) (by decide) (by decide), g2, dcG_lo hp hN.1 (by decide) (by decide) (by decide) (by omega), s2]
    · rw [u1 0 (by decide), dcG_lo hp hN.1 (by decide) (by decide) (by decide) (by omega), r3]
    · rw [uf 3 (by decide) (by decide) (by decide), seG_f _ _ _ (by decide), dcG_lo hp hN.1 (by decide) (by decide) (by decide) (by omega), r4]
    · rw [uf 3 (by decide) (by decide) (by decide), seG_f _ _ _ (by decide), dcG_lo hp hN.1 (by decide) (by decide) (by decide) (by omega), r5]
    · rw [uf 3 (by decide) (by decide) (by decide), seG_f _ _ _ (by decide), dcG_lo hp hN.1 (by decide) (by decide) (by decide) (by omega), r6]
    · rw [u1 1 (by decide), dcG_lo hp hN.1 (by decide) (by decide) (by decide) (by omega), r7]
    · rw [uf 6 (by decide) (by decide) (by decide)]
      by_cases hx : q = p ∧ x = 2
      · obtain ⟨rfl, rfl⟩ := hx
        unfold seG dcG
        rw [up_s, up_s, rp q 2 p0 p4 (by decide) (by decide)]
      · rw [dcG_lo hp hN.1 (by omega) (by omega) (by omega) (by omega), ← rp q x p0 p4 x0 x6]
        unfold seG
        by_cases hqp : q = p
        · rw [up_i (by omega)]
        · rw [up_j hqp]
    · rw [ml]
      exact el.trans ((hq.append_right _).append_right _)
    · rw [t0', t1']
      split <;> omega
