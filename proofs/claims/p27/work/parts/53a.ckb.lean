/-! a canyon held, after a throw, a setting -/
theorem ck_ball {g : St} {n a b q : Int} (ha : 0 ≤ a ∧ a ≤ g 2 0 0 0) (hb : 1 ≤ b ∧ b ≤ 9) (hq : q = 0 ∨ q = 1) (hc : ck g 0 n) : ck (up (up (up g 3 0 0 0 a) 3 0 0 1 b) 3 0 0 2 q) 0 n := by
  have ef : ∀ f : Nat, f ≠ 3 → up (up (up g 3 0 0 0 a) 3 0 0 1 b) 3 0 0 2 q f = g f := fun f h => by rw [up_ff h, up_ff h, up_ff h]
  have e0 : up (up (up g 3 0 0 0 a) 3 0 0 1 b) 3 0 0 2 q 3 0 0 0 = a := by rw [up_i (by decide), up_i (by decide), up_s]
  have e1 : up (up (up g 3 0 0 0 a) 3 0 0 1 b) 3 0 0 2 q 3 0 0 1 = b := by rw [up_i (by decide), up_s]
  have e2 : up (up (up g 3 0 0 0 a) 3 0 0 1 b) 3 0 0 2 q 3 0 0 2 = q := by rw [up_s]
  obtain ⟨⟨hS0, hS1, hS2, hB0, hB1, hB2, hCl, hN, hPl, hPm, hPj, hEc, hSo⟩, h6, hbd⟩ := hc
  refine ⟨?_, fun p x y => ?_, ?_⟩
  · unfold wf okE
    rw [e0, e1, e2, ef 1 (by decide), ef 2 (by decide), ef 5 (by decide), ef 6 (by decide), ef 7 (by decide)]
    exact ⟨hS0, hS1, hS2, ha, hb, hq, hCl, hN, hPl, hPm, hPj, hEc, hSo⟩
  · rw [eOf_els, els_x (by rw [ef 1 (by decide)]) (ef 5 (by decide)) (ef 7 (by decide)), ← eOf_els]; exact h6 p x y
  · unfold bd; rw [ef 6 (by decide), ef 1 (by decide)]; exact hbd
theorem fur_le {g : St} {v : Int} (h : fur g 0 ≤ v) : g 3 0 0 0 ≤ v ∧ (∀ j, 0 ≤ j → j < 4 → g 6 0 j 0 ≤ v) ∧ ∀ i, 0 ≤ i → i < g 1 0 0 2 → g 7 0 (g 5 0 0 i) 1 ≤ v := by
  unfold fur at h
  rw [mxN_le, mxN_le] at h
  exact ⟨h.1.1, fun j a b => h.1.2 j a (by omega), fun i a b => h.2 i a (by omega)⟩
theorem ck_set {g : St} {n a v : Int} (ha : 0 ≤ a ∧ a < 3) (hv : lsV a ≤ v ∧ v ≤ msV a) (hf : a = 0 → fur g 0 ≤ v) (hc : ck g 0 n) : ck (up g 2 0 0 a v) 0 n := by
  have ef : ∀ f : Nat, f ≠ 2 → up g 2 0 0 a v f = g f := fun f h => up_ff h
  obtain ⟨⟨hS0, hS1, hS2, hB0, hB1, hB2, hCl, hN, hPl, hPm, hPj, hEc, hSo⟩, h6, hbd⟩ := hc
  have e0 : up g 2 0 0 a v 2 0 0 0 = if a = 0 then v else g 2 0 0 0 := by
    by_cases h : a = 0
    · subst h; rw [up_s, if_pos rfl]
    · rw [up_i (Ne.symm h), if_neg h]
  have e1 : up g 2 0 0 a v 2 0 0 1 = if a = 1 then v else g 2 0 0 1 := by
    by_cases h : a = 1
    · subst h; rw [up_s, if_pos rfl]
    · rw [up_i (Ne.symm h), if_neg h]
  have e2 : up g 2 0 0 a v 2 0 0 2 = if a = 2 then v else g 2 0 0 2 := by
    by_cases h : a = 2
    · subst h; rw [up_s, if_pos rfl]
    · rw [up_i (Ne.symm h), if_neg h]
  refine ⟨?_, fun p x y => ?_, ?_⟩
  · unfold wf okE
    rw [e0, e1, e2, ef 1 (by decide), ef 3 (by decide), ef 5 (by decide), ef 6 (by decide), ef 7 (by decide)]
    unfold lsV msV at hv
    by_cases h0 : a = 0
    · have hl := fur_le (hf h0)
      rw [if_pos h0, if_pos h0] at hv
      rw [if_pos h0, if_neg (by omega), if_neg (by omega)]
      refine ⟨hv, hS1, hS2, ⟨hB0.1, hl.1⟩, hB1, hB2, hCl, hN, fun j x y => ⟨(hPl j x y).1, hl.2.1 j x y⟩, hPm, hPj, fun i x y => ?_, hSo⟩
      have o := hEc i x y
      have l := hl.2.2 i x y
      unfold okE at o
      exact ⟨o.1, ⟨o.2.1.1, l⟩, o.2.2⟩
    · rw [if_neg h0, if_neg h0] at hv
      rw [if_neg h0]
      refine ⟨hS0, ?_, ?_, hB0, hB1, hB2, hCl, hN, hPl, hPm, hPj, hEc, hSo⟩
      · by_cases h1 : a = 1
        · rw [if_pos h1, if_pos h1] at hv; rw [if_pos h1]; exact hv
        · rw [if_neg h1]; exact hS1
      · by_cases h2 : a = 2
        · rw [if_neg (by omega), if_neg (by omega)] at hv; rw [if_pos h2]; exact hv
        · rw [if_neg h2]; exact hS2
  · rw [eOf_els, els_x (by rw [ef 1 (by decide)]) (ef 5 (by decide)) (ef 7 (by decide)), ← eOf_els]; exact h6 p x y
  · unfold bd; rw [ef 6 (by decide), ef 1 (by decide)]; exact hbd
theorem fur_fk {g u : St} (h : ∀ f : Nat, 1 ≤ f → f ≤ 7 → u f 0 = g f 0) : fur u 0 = fur g 0 := by
  unfold fur; rw [h 1 (by decide) (by decide), h 3 (by decide) (by decide), h 5 (by decide) (by decide), h 6 (by decide) (by decide), h 7 (by decide) (by decide)]
