/-! class and reference: looks -/
theorem pl_tie {g m : St} {p w : Int} (hR : tie g 0 m) (hp : 0 ≤ p ∧ p < 4) (hw : 0 ≤ w ∧ w ≤ 6) : plN g 0 p w = mpl m p w := by
  have he := eOf_tie (p := p) hR
  have rp := fun x a b => hR.2.2.2.1 p x hp.1 hp.2 a b
  have r0 := rp 0 (by decide) (by decide)
  have r1 := rp 1 (by decide) (by decide)
  have r2 := rp 2 (by decide) (by decide)
  have r3 := rp 3 (by decide) (by decide)
  have r4 := rp 4 (by decide) (by decide)
  have r5 := rp 5 (by decide) (by decide)
  unfold plN mpl
  by_cases h3 : w < 3
  · rw [if_pos h3]
    have : w = 0 ∨ w = 1 ∨ w = 2 := by omega
    rcases this with rfl | rfl | rfl
    · rw [if_pos rfl, r0]
    · rw [if_neg (by decide), if_pos rfl, r1]
    · rw [if_neg (by decide), if_neg (by decide), if_pos rfl, r2]
  · rw [if_neg h3, if_neg (by omega), if_neg (by omega), if_neg (by omega)]
    by_cases h : w = 3
    · rw [if_pos h, if_pos h, he]
    · rw [if_neg h, if_neg h]
      have : w = 4 ∨ w = 5 ∨ w = 6 := by omega
      rcases this with rfl | rfl | rfl
      · rw [if_pos rfl, r3]; rfl
      · rw [if_neg (by decide), if_pos rfl, r4]; rfl
      · rw [if_neg (by decide), if_neg (by decide), r5]; rfl
theorem sm_tie {g m : St} {w : Int} (hR : tie g 0 m) (hw : 4 ≤ w ∧ w ≤ 6) : smN g 0 w = sumM m (w - 1) := by
  have q : ∀ p, 0 ≤ p → p < 4 → plN g 0 p w = m 15 0 0 (10 + 6 * p + (w - 1)) := fun p a b => by
    rw [pl_tie hR ⟨a, b⟩ (by omega)]; unfold mpl; rw [if_neg (by omega), if_neg (by omega)]
  unfold smN sumM
  rw [q 0 (by decide) (by decide), q 1 (by decide) (by decide), q 2 (by decide) (by decide), q 3 (by decide) (by decide)]
theorem sm1_tie {g m : St} {w : Int} (hR : tie g 0 m) (hw : 0 ≤ w ∧ w ≤ 2) : smN g 0 w = sumM m w := by
  have q : ∀ p, 0 ≤ p → p < 4 → plN g 0 p w = m 15 0 0 (10 + 6 * p + w) := fun p a b => by
    rw [pl_tie hR ⟨a, b⟩ (by omega)]; unfold mpl; rw [if_pos (by omega)]
  unfold smN sumM
  rw [q 0 (by decide) (by decide), q 1 (by decide) (by decide), q 2 (by decide) (by decide), q 3 (by decide) (by decide)]
theorem sh_tie {g m : St} (hR : tie g 0 m) : shK g 0 = shMM m := by
  unfold shK shMM
  rw [sm_tie hR (w := 4) (by decide), sm_tie hR (w := 5) (by decide), sm_tie hR (w := 6) (by decide)]; rfl
theorem n_tie {g m : St} {d d2 : Int} (hw : wf g 0 d) (hm : wm (m 15 0 0) d2) (hR : tie g 0 m) : g 1 0 0 2 = m 15 0 0 9 := by
  have h := hR.2.2.2.2.length_eq
  rw [els_len, mls_len] at h
  have a := hw.2.2.2.2.2.2.2.1
  have b := hm.2.2.2.2.2.2.2.1
  omega
theorem bs_tie {g m : St} (hR : tie g 0 m) : bst g 0 = mBs m 4 := by
  have rp := fun p a b x c d => hR.2.2.2.1 p x a b c d
  have e1 : ∀ p, 0 ≤ p → p < 4 → g 6 0 p 1 = m 15 0 0 (10 + 6 * p + 1) := fun p a b => rp p a b 1 (by decide) (by decide)
  have e3 : ∀ p, 0 ≤ p → p < 4 → g 6 0 p 3 = m 15 0 0 (10 + 6 * p + 3) := fun p a b => rp p a b 3 (by decide) (by decide)
  have st : ∀ (n : Nat) (b : Int), 1 ≤ n → n < 4 → 0 ≤ b → b < 4 → btr g 0 n b = if mBe m b n then (n : Int) else b := fun n b h1 h4 b0 b4 => by
    unfold btr mBe
    rw [e1 b b0 b4, e1 n (by omega) (by omega), e3 b b0 b4, e3 n (by omega) (by omega)]
    by_cases h : 0 < m 15 0 0 (10 + 6 * (n : Int) + 1) - m 15 0 0 (10 + 6 * b + 1) ∨ (m 15 0 0 (10 + 6 * (n : Int) + 1) - m 15 0 0 (10 + 6 * b + 1) = 0 ∧ m 15 0 0 (10 + 6 * b + 3) < m 15 0 0 (10 + 6 * (n : Int) + 3))
    · rw [if_pos h, if_pos (by omega)]
    · rw [if_neg h, if_neg (by omega)]
  have m1 : mBs m 1 = 0 := by rw [mBs, if_pos rfl]
  have i2 := mBs_in m 2
  have i3 := mBs_in m 3
  have m2 : mBs m 2 = btr g 0 1 0 := by rw [mBs, if_neg (by decide), m1]; exact (st 1 0 (by decide) (by decide) (by decide) (by decide)).symm
  have m3 : mBs m 3 = btr g 0 2 (mBs m 2) := by rw [mBs, if_neg (by decide)]; exact (st 2 (mBs m 2) (by decide) (by decide) (by omega) (by omega)).symm
  have m4 : mBs m 4 = btr g 0 3 (mBs m 3) := by rw [mBs, if_neg (by decide)]; exact (st 3 (mBs m 3) (by decide) (by decide) (by omega) (by omega)).symm
  unfold bst
  rw [m4, m3, m2]
