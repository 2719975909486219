/-! class and reference: turns, walks, calls -/
theorem trs_tie : ∀ (n : Nat) {g u m : St} {z : Int}, wf g 0 1 → c6 g → wm (m 15 0 0) 1 → m 15 0 0 3 + n ≤ 100000 → tie g 0 m → trs 0 n g u z → tie u 0 (tuN m n).1 ∧ z = (tuN m n).2
  | 0, g, u, m, z, _, _, _, _, hR, h => by
    obtain ⟨rfl, rfl⟩ := h; exact ⟨hR, rfl⟩
  | n + 1, g, u, m, z, hw, h6, hm, hc, hR, h => by
    obtain ⟨v, y, x, h1, h2, rfl⟩ := h
    have hg : g 1 0 0 0 = m 15 0 0 3 := hR.2.1.1
    have a := trs_tie n hw h6 hm (by omega) hR h1
    have o := trs_ok n hw h6 (by omega) h1
    have t := tuN_in hm n (by omega)
    have b := turn_tie o.1 t.1 (by omega) a.1 h2
    rw [tuN]
    exact ⟨b.1, by show y + x = (tuN m n).2 + (tuM (tuN m n).1).2; rw [a.2, b.2]⟩
theorem mv_tie {g m : St} {p b : Int} (hp : 0 ≤ p ∧ p < 4) (hR : tie g 0 m) : tie (mvG g 0 p b) 0 (mvGM m p b) ∧ mvR g 0 p b = mvRM m p b := by
  obtain ⟨⟨s0, s1, s2⟩, ⟨r3, r4, r5, r6⟩, r7, rp, hq⟩ := hR
  have e0 := rp p 0 hp.1 hp.2 (by decide) (by decide)
  have eo : mvO g 0 p b ↔ mvOM m p b := by unfold mvO mvOM; rw [e0, s0]
  unfold mvG mvGM mvR mvRM
  by_cases h : mvO g 0 p b
  · have h2 := eo.mp h
    rw [if_pos h, if_pos h2, if_pos h, if_pos h2]
    refine ⟨⟨⟨?_, ?_, ?_⟩, ⟨?_, ?_, ?_, ?_⟩, ?_, fun q x p0 p4 x0 x6 => ?_, ?_⟩, rfl⟩
    · rw [up_f (by decide), up_i (by decide), s0]
    · rw [up_f (by decide), up_i (by decide), s1]
    · rw [up_f (by decide), up_i (by decide), s2]
    · rw [up_i (by decide), up_i (by decide), r3]
    · rw [up_f (by decide), up_i (by decide), r4]
    · rw [up_f (by decide), up_i (by decide), r5]
    · rw [up_f (by decide), up_i (by decide), r6]
    · rw [up_s, up_s, r7]
    · rw [up_f (by decide), up_i (by omega), rp q x p0 p4 x0 x6]
    · rw [els_x (up_i (by decide)) (up_ff (by decide)) (up_ff (by decide)), mls_x (fun x hx => up_i (by omega))]; exact hq
  · have h2 : ¬ mvOM m p b := fun hx => h (eo.mpr hx)
    rw [if_neg h, if_neg h2, if_neg h, if_neg h2]
    refine ⟨⟨⟨?_, ?_, ?_⟩, ⟨?_, ?_, ?_, ?_⟩, ?_, fun q x p0 p4 x0 x6 => ?_, ?_⟩, by rw [e0]⟩
    · rw [up_f (by decide), up_i (by omega), s0]
    · rw [up_f (by decide), up_i (by omega), s1]
    · rw [up_f (by decide), up_i (by omega), s2]
    · rw [up_f (by decide), up_i (by omega), r3]
    · rw [up_f (by decide), up_i (by omega), r4]
    · rw [up_f (by decide), up_i (by omega), r5]
    · rw [up_f (by decide), up_i (by omega), r6]
    · rw [up_f (by decide), up_i (by omega), r7]
    · by_cases hx : q = p ∧ x = 0
      · obtain ⟨rfl, rfl⟩ := hx; rw [up_s, up_s, e0]
      · rw [up_i (show 10 + 6 * q + x ≠ 10 + 6 * p + 0 by omega)]
        by_cases hqp : q = p
        · rw [up_i (by omega), rp q x p0 p4 x0 x6]
        · rw [up_j hqp, rp q x p0 p4 x0 x6]
    · rw [els_x (up_f (by decide)) (up_ff (by decide)) (up_ff (by decide)), mls_x (fun x hx => up_i (by omega))]; exact hq
theorem mUw_mls (m : St) (p : Int) : mUw m p = (((mls m).countP (ofP p) : Nat) : Int) := cn_count (mOf m p) (fun i : Nat => mev m i) (ofP p) (fun i => rfl) _
theorem eOf_tie {g m : St} {p : Int} (hR : tie g 0 m) : eOf g 0 p = mUw m p := by
  rw [eOf_els, mUw_mls, hR.2.2.2.2.countP_eq]
theorem c6_tie {g m : St} (hR : tie g 0 m) (h6 : c6 g) : n6M m := fun p h0 h4 => by rw [← eOf_tie hR]; exact h6 p h0 h4
theorem eT_tie {g m : St} {p w : Int} (hR : tie g 0 m) (hp : 0 ≤ p ∧ p < 4) : eT g 0 (g 6 0 p 0) w = mD1 m p w := by
  obtain ⟨⟨s0, s1, s2⟩, -, -, rp, -⟩ := hR
  have e0 := rp p 0 hp.1 hp.2 (by decide) (by decide)
  unfold eT mD1 mDl
  rw [e0, s0, s1, s2]
