/-! class and reference: counts -/
theorem ct_tie {g m : St} {d d2 w : Int} (hw : wf g 0 d) (hm : wm (m 15 0 0) d2) (hR : tie g 0 m) (h8 : m 15 0 0 8 = 2 * sumM m 2) (hh : g 8 0 0 1 = m 14 0 0 3) (hr : 0 ≤ w ∧ w ≤ 11) : ctN g w = mCt m w := by
  have hn := n_tie hw hm hR
  have s2 := sm1_tie (w := 2) hR (by decide)
  have s1 := sm1_tie (w := 1) hR (by decide)
  have s4 := sm_tie (w := 4) hR (by decide)
  have s5 := sm_tie (w := 5) hR (by decide)
  have s6 := sm_tie (w := 6) hR (by decide)
  rw [show (4 : Int) - 1 = 3 by decide] at s4
  rw [show (5 : Int) - 1 = 4 by decide] at s5
  rw [show (6 : Int) - 1 = 5 by decide] at s6
  obtain ⟨-, ⟨r3, r4, r5, r6⟩, r7, -⟩ := hR
  have hx : w = 0 ∨ w = 1 ∨ w = 2 ∨ w = 3 ∨ w = 4 ∨ w = 5 ∨ w = 6 ∨ w = 7 ∨ w = 8 ∨ w = 9 ∨ w = 10 ∨ w = 11 := by omega
  unfold ctN nbN mCt
  rcases hx with rfl | rfl | rfl | rfl | rfl | rfl | rfl | rfl | rfl | rfl | rfl | rfl <;> simp only [Int.reduceEq, if_false, if_true, reduceCtorEq]
  · exact r3
  · exact r4
  · exact r5
  · exact r6
  · exact hn
  · rw [s2, h8]
  · exact s4
  · exact s5
  · exact s6
  · exact s1
  · exact r7
  · exact hh
