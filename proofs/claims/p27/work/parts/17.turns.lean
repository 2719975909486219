/-! what keeps a canyon whole -/
theorem up_ff {g : St} {f f' : Nat} {k j i v : Int} (h : f' ≠ f) : up g f k j i v f' = g f' := by
  funext k' j' i'; exact up_f h
theorem wf_up6 {g : St} {k d p q v : Int} (hq : q ≠ 0) (h : wf g k d) : wf (up g 6 k p q v) k d := by
  have h2 : ∀ k' j, up g 6 k p q v 6 k' j 0 = g 6 k' j 0 := fun _ _ => up_i (Ne.symm hq)
  unfold wf okE at *
  simp only [up_ff (show (1 : Nat) ≠ 6 by decide), up_ff (show (2 : Nat) ≠ 6 by decide), up_ff (show (3 : Nat) ≠ 6 by decide), up_ff (show (5 : Nat) ≠ 6 by decide), up_ff (show (7 : Nat) ≠ 6 by decide), h2]
  exact h
theorem wf_up3 {g : St} {k d s r : Int} (hs : 1 ≤ s ∧ s ≤ 9) (hr : r = 0 ∨ r = 1) (h : wf g k d) : wf (up (up g 3 k 0 1 s) 3 k 0 2 r) k d := by
  have h0 : up (up g 3 k 0 1 s) 3 k 0 2 r 3 k 0 0 = g 3 k 0 0 := by simp [up]
  have h1 : up (up g 3 k 0 1 s) 3 k 0 2 r 3 k 0 1 = s := by simp [up]
  have h2 : up (up g 3 k 0 1 s) 3 k 0 2 r 3 k 0 2 = r := by simp [up]
  unfold wf okE at *
  simp only [h0, h1, h2, up_ff (show (1 : Nat) ≠ 3 by decide), up_ff (show (2 : Nat) ≠ 3 by decide), up_ff (show (6 : Nat) ≠ 3 by decide), up_ff (show (5 : Nat) ≠ 3 by decide), up_ff (show (7 : Nat) ≠ 3 by decide)]
  obtain ⟨a1, a2, a3, a4, a5, a6, a7⟩ := h
  exact ⟨a1, a2, a3, a4, hs, hr, a7⟩
theorem wf_refused {g : St} {k d v : Int} (h : wf g k d) : wf (up g 1 k 0 1 v) k d := by
  have h0 : up g 1 k 0 1 v 1 k 0 0 = g 1 k 0 0 := by simp [up]
  have h1 : up g 1 k 0 1 v 1 k 0 2 = g 1 k 0 2 := by simp [up]
  unfold wf okE at *
  simp only [h0, h1, up_ff (show (3 : Nat) ≠ 1 by decide), up_ff (show (2 : Nat) ≠ 1 by decide), up_ff (show (6 : Nat) ≠ 1 by decide), up_ff (show (5 : Nat) ≠ 1 by decide), up_ff (show (7 : Nat) ≠ 1 by decide)]
  exact h
theorem wf_place {g : St} {k d p v : Int} (hv : 0 ≤ v ∧ v ≤ g 2 k 0 0) (h : wf g k d) : wf (up g 6 k p 0 v) k d := by
  unfold wf okE at *
  simp only [up_ff (show (1 : Nat) ≠ 6 by decide), up_ff (show (2 : Nat) ≠ 6 by decide), up_ff (show (3 : Nat) ≠ 6 by decide), up_ff (show (5 : Nat) ≠ 6 by decide), up_ff (show (7 : Nat) ≠ 6 by decide)]
  obtain ⟨a1, a2, a3, a4, a5, a6, a7, a8, a9, a10⟩ := h
  refine ⟨a1, a2, a3, a4, a5, a6, a7, a8, fun j h0 h4 => ?_, a10⟩
  by_cases hj : j = p
  · subst hj; rw [up_s]; exact hv
  · rw [up_j hj]; exact a9 j h0 h4
theorem ad5 (g : St) (k p w y a i : Int) : adG g k p w y a 5 k 0 i = if i = a then g 5 k 0 (g 1 k 0 2) else if a < i ∧ i ≤ g 1 k 0 2 then g 5 k 0 (i - 1) else g 5 k 0 i := by
  simp only [adG, up, shG, ecG]; grind
theorem ad7 (g : St) (k p w y a c q : Int) : adG g k p w y a 7 k c q = if c = g 5 k 0 (g 1 k 0 2) then (if q = 0 then p else if q = 1 then g 6 k p 0 else if q = 2 then w else if q = 4 then y else if q = 3 then g 1 k 0 0 + eT g k (g 6 k p 0) y else g 7 k c q) else g 7 k c q := by
  simp only [adG, up, shG, ecG]; grind
theorem ad1 (g : St) (k p w y a i : Int) : adG g k p w y a 1 k 0 i = if i = 2 then g 1 k 0 2 + 1 else g 1 k 0 i := by
  simp only [adG, up, shG, ecG]; grind
theorem adf (g : St) (k p w y a : Int) {f : Nat} (h1 : f ≠ 1) (h5 : f ≠ 5) (h7 : f ≠ 7) : adG g k p w y a f = g f := by
  funext k' j i
  simp only [adG, up, shG, ecG]; grind
theorem ad_due {g : St} {k p y a : Int} (h : wf g k 1) (hc : adC g k p y a) {r : Int} (h0 : 0 ≤ r) (h1 : r < a) : eF g k r 3 ≤ g 1 k 0 0 + eT g k (g 6 k p 0) y := by
  obtain ⟨hS0, hS1, hS2, hB0, hB1, hB2, hCl, hN, hPl, hPm, hPj, hEc, hSo⟩ := h
  exact Int.le_trans (hSo r (a - 1) h0 (by omega) (by have := hc.1; omega)) (hc.2.1 (by omega))
theorem adG_wf {g : St} {k p w y a : Int} (h : wf g k 1) (hp : 0 ≤ p ∧ p < 4) (hw : 0 ≤ w ∧ w ≤ 9) (hy : 0 ≤ y ∧ y ≤ 1) (hn : g 1 k 0 2 < 24) (hc : adC g k p y a) : wf (adG g k p w y a) k 1 := by
  have hdu := fun {r : Int} => ad_due (r := r) h hc
  obtain ⟨hS0, hS1, hS2, hB0, hB1, hB2, hCl, hN, hPl, hPm, hPj, hEc, hSo⟩ := id h
  have hpl := hPl p hp.1 hp.2
  have hty := eT_in (w := y) h hpl
  have hce := hPm (g 1 k 0 2) (by omega) hn
  obtain ⟨ha, -, hgt⟩ := id hc
  have hne : ∀ r, 0 ≤ r → r < g 1 k 0 2 → g 5 k 0 r ≠ g 5 k 0 (g 1 k 0 2) := fun r h0 h1 he => by
    have := hPj r (g 1 k 0 2) h0 (by omega) (by omega) hn he; omega
  have hold : ∀ r q, 0 ≤ r → r < g 1 k 0 2 → adG g k p w y a 7 k (g 5 k 0 r) q = g 7 k (g 5 k 0 r) q := fun r q h0 h1 => by
    rw [ad7, if_neg (hne r h0 h1)]
  have hnew : adG g k p w y a 7 k (g 5 k 0 (g 1 k 0 2)) 3 = g 1 k 0 0 + eT g k (g 6 k p 0) y := by rw [ad7, if_pos rfl]; simp
  have e2 := adf g k p w y a (f := 2) (by decide) (by decide) (by decide)
  have e3 := adf g k p w y a (f := 3) (by decide) (by decide) (by decide)
  have e6 := adf g k p w y a (f := 6) (by decide) (by decide) (by decide)
  have e10 : adG g k p w y a 1 k 0 0 = g 1 k 0 0 := by rw [ad1, if_neg (by decide)]
  have e12 : adG g k p w y a 1 k 0 2 = g 1 k 0 2 + 1 := by rw [ad1, if_pos rfl]
  have hcase : ∀ i, 0 ≤ i → i < g 1 k 0 2 + 1 → (i = a ∧ adG g k p w y a 5 k 0 i = g 5 k 0 (g 1 k 0 2)) ∨ (i < a ∧ adG g k p w y a 5 k 0 i = g 5 k 0 i) ∨ (a < i ∧ adG g k p w y a 5 k 0 i = g 5 k 0 (i - 1)) := fun i h0 h1 => by
    rw [ad5]; by_cases hi : i = a
    · rw [if_pos hi]; exact Or.inl ⟨hi, rfl⟩
    · rw [if_neg hi]; by_cases h2 : a < i ∧ i ≤ g 1 k 0 2
      · rw [if_pos h2]; exact Or.inr (Or.inr ⟨h2.1, rfl⟩)
      · rw [if_neg h2]; exact Or.inr (Or.inl ⟨by omega, rfl⟩)
  unfold wf
  rw [e2, e3, e6, e10, e12]
  refine ⟨hS0, hS1, hS2, hB0, hB1, hB2, hCl, by omega, hPl, fun i h0 h1 => ?_, fun i j hi0 hi1 hj0 hj1 he => ?_, fun i h0 h1 => ?_, fun i j h0 hij h1 => ?_⟩
  · rw [ad5]; split
    · exact hce
    · split
      · exact hPm _ (by omega) (by omega)
      · exact hPm _ h0 h1
  · rw [ad5, ad5] at he
    have p1 := fun x y q1 q2 q3 q4 => hPj x y q1 q2 q3 q4
    by_cases i1 : i = a
    · rw [if_pos i1] at he
      by_cases j1 : j = a
      · omega
      · rw [if_neg j1] at he
        by_cases j2 : a < j ∧ j ≤ g 1 k 0 2
        · rw [if_pos j2] at he; have := hPj _ _ (by omega) hn (by omega) (by omega) he; omega
        · rw [if_neg j2] at he; have := hPj _ _ (by omega) hn hj0 hj1 he; omega
    · rw [if_neg i1] at he
      by_cases i2 : a < i ∧ i ≤ g 1 k 0 2
      · rw [if_pos i2] at he
        by_cases j1 : j = a
        · rw [if_pos j1] at he; have := hPj _ _ (by omega) (by omega) (by omega) hn he; omega
        · rw [if_neg j1] at he
          by_cases j2 : a < j ∧ j ≤ g 1 k 0 2
          · rw [if_pos j2] at he; have := hPj _ _ (by omega) (by omega) (by omega) (by omega) he; omega
          · rw [if_neg j2] at he; have := hPj _ _ (by omega) (by omega) hj0 hj1 he; omega
      · rw [if_neg i2] at he
        by_cases j1 : j = a
        · rw [if_pos j1] at he; have := hPj _ _ hi0 hi1 (by omega) hn he; omega
        · rw [if_neg j1] at he
          by_cases j2 : a < j ∧ j ≤ g 1 k 0 2
          · rw [if_pos j2] at he; have := hPj _ _ hi0 hi1 (by omega) (by omega) he; omega
          · rw [if_neg j2] at he; exact hPj _ _ hi0 hi1 hj0 hj1 he
  · rcases hcase i h0 h1 with ⟨h2, h3⟩ | ⟨h2, h3⟩ | ⟨h2, h3⟩
    · rw [h3]; unfold okE; rw [e2, e10, ad7, ad7, ad7, ad7, ad7]
      simp only [if_true]
      refine ⟨by simpa using hp, by simpa using hpl, by simpa using hw, by simp; omega, by simp; omega⟩
    · rw [h3]; have := hEc i h0 (by omega); unfold okE at *; rw [e2, e10, hold _ _ h0 (by omega), hold _ _ h0 (by omega), hold _ _ h0 (by omega), hold _ _ h0 (by omega), hold _ _ h0 (by omega)]; exact this
    · rw [h3]; have := hEc (i - 1) (by omega) (by omega); unfold okE at *; rw [e2, e10, hold (i - 1) _ (by omega) (by omega), hold (i - 1) _ (by omega) (by omega), hold (i - 1) _ (by omega) (by omega), hold (i - 1) _ (by omega) (by omega), hold (i - 1) _ (by omega) (by omega)]; exact this
  · rcases hcase i h0 (by omega) with ⟨h2, h3⟩ | ⟨h2, h3⟩ | ⟨h2, h3⟩ <;> rcases hcase j (by omega) h1 with ⟨h4, h5⟩ | ⟨h4, h5⟩ | ⟨h4, h5⟩ <;> rw [h3, h5]
    · exact Int.le_refl _
    · omega
    · rw [hnew, hold (j - 1) _ (by omega) (by omega)]; have := hgt (j - 1) (by omega) (by omega); unfold eF at this; omega
    · rw [hnew, hold i _ h0 (by omega)]; have := hdu h0 h2; unfold eF at this; omega
    · rw [hold i _ h0 (by omega), hold j _ (by omega) (by omega)]; exact hSo i j h0 hij (by omega)
    · rw [hold i _ h0 (by omega), hold (j - 1) _ (by omega) (by omega)]; exact hSo i (j - 1) h0 (by omega) (by omega)
    · omega
    · omega
    · rw [hold (i - 1) _ (by omega) (by omega), hold (j - 1) _ (by omega) (by omega)]; exact hSo (i - 1) (j - 1) (by omega) (by omega) (by omega)
/-- a turn's beginning: the clock, the ball -/
def tbG (g : St) (k : Int) : St := bl (up g 1 k 0 0 (g 1 k 0 0 + 1)) k (bwalk (g 2 k 0 0) (g 3 k 0 1).toNat (g 3 k 0 0, g 3 k 0 2)).1 (bwalk (g 2 k 0 0) (g 3 k 0 1).toNat (g 3 k 0 0, g 3 k 0 2)).2
theorem tbG_f (g : St) (k : Int) {f : Nat} (h1 : f ≠ 1) (h3 : f ≠ 3) : tbG g k f = g f := by
  funext k' j i; simp only [tbG, bl, up]; grind
theorem tbG_0 (g : St) (k : Int) : tbG g k 1 k 0 0 = g 1 k 0 0 + 1 := by simp only [tbG, bl, up]; grind
theorem tbG_2 (g : St) (k : Int) : tbG g k 1 k 0 2 = g 1 k 0 2 := by simp only [tbG, bl, up]; grind
theorem tbG_wf {g : St} {k : Int} (h : wf g k 1) (hc : g 1 k 0 0 < 100000) : wf (tbG g k) k 0 := by
  obtain ⟨hS0, hS1, hS2, hB0, hB1, hB2, hCl, hN, hPl, hPm, hPj, hEc, hSo⟩ := h
  have q := bwalk_in (last := g 2 k 0 0) (by omega) (q := (g 3 k 0 0, g 3 k 0 2)) hB0 hB2 (g 3 k 0 1).toNat
  have e30 : tbG g k 3 k 0 0 = (bwalk (g 2 k 0 0) (g 3 k 0 1).toNat (g 3 k 0 0, g 3 k 0 2)).1 := by simp only [tbG, bl, up]; grind
  have e31 : tbG g k 3 k 0 1 = g 3 k 0 1 := by simp only [tbG, bl, up]; grind
  have e32 : tbG g k 3 k 0 2 = (bwalk (g 2 k 0 0) (g 3 k 0 1).toNat (g 3 k 0 0, g 3 k 0 2)).2 := by simp only [tbG, bl, up]; grind
  unfold wf okE
  rw [tbG_f g k (f := 2) (by decide) (by decide), tbG_f g k (f := 5) (by decide) (by decide), tbG_f g k (f := 6) (by decide) (by decide), tbG_f g k (f := 7) (by decide) (by decide), tbG_0, tbG_2, e30, e31, e32]
  refine ⟨hS0, hS1, hS2, q.1, hB1, q.2, by omega, hN, hPl, hPm, hPj, fun i h0 h1 => ?_, hSo⟩
  have := hEc i h0 h1
  unfold okE at this; omega
theorem fwS_in {s w : Int} (h : 1 ≤ s ∧ s ≤ 9) : 1 ≤ fwS s w ∧ fwS s w ≤ 9 := by unfold fwS; (repeat' split) <;> omega
theorem fwR_in {r w : Int} (h : r = 0 ∨ r = 1) : fwR r w = 0 ∨ fwR r w = 1 := by unfold fwR; split <;> omega
theorem icG_f (g : St) (k r : Int) {f : Nat} (h3 : f ≠ 3) (h6 : f ≠ 6) : icG g k r f = g f := by
  unfold icG
  (repeat' split) <;> simp only [up_ff h3, up_ff h6]
theorem icG_0 (g : St) (k r : Int) : icG g k r 3 k 0 0 = g 3 k 0 0 := by
  unfold icG
  (repeat' split) <;> simp [up]
theorem icG_p (g : St) (k r j : Int) : icG g k r 6 k j 0 = g 6 k j 0 := by
  unfold icG
  (repeat' split) <;> simp [up]
theorem icG_wf {g : St} {k d r : Int} (h : wf g k d) : wf (icG g k r) k d := by
  obtain ⟨hS0, hS1, hS2, hB0, hB1, hB2, -⟩ := id h
  unfold icG
  split
  · exact wf_up6 (by decide) h
  · split
    · exact wf_up6 (by decide) h
    · split
      · exact wf_up6 (by decide) h
      · exact wf_up3 (fwS_in hB1) (fwR_in hB2) (wf_up6 (by decide) (wf_up6 (by decide) h))
/-- the n first echoes come back -/
def caN (g : St) (k : Int) : Nat → St × Int
  | 0 => (g, 0)
  | n + 1 => (icG (caN g k n).1 k n, (caN g k n).2 + icR (caN g k n).1 k n)
theorem caN_f (g : St) (k : Int) {f : Nat} (h3 : f ≠ 3) (h6 : f ≠ 6) : ∀ n, (caN g k n).1 f = g f
  | 0 => rfl
  | n + 1 => by rw [caN]; exact (icG_f _ _ _ h3 h6).trans (caN_f g k h3 h6 n)
theorem caN_wf {g : St} {k d : Int} (h : wf g k d) : ∀ n, wf (caN g k n).1 k d
  | 0 => h
  | n + 1 => icG_wf (caN_wf h n)
theorem caN_s {g : St} {k i : Int} (h : 0 ≤ i) : caN g k (i + 1).toNat = (icG (caN g k i.toNat).1 k i, (caN g k i.toNat).2 + icR (caN g k i.toNat).1 k i) := by
  rw [show (i + 1).toNat = i.toNat + 1 by omega, caN, show ((i.toNat : Nat) : Int) = i by omega]
/-- a turn -/
def tr (g u : St) (k z : Int) : Prop := ∃ b, (0 ≤ b ∧ b ≤ g 1 k 0 2) ∧ (∀ i, 0 ≤ i → i < b → eF g k i 3 ≤ g 1 k 0 0 + 1) ∧ (b < g 1 k 0 2 → g 1 k 0 0 + 1 < eF g k b 3) ∧ z = (caN (tbG g k) k b.toNat).2 ∧ drp (caN (tbG g k) k b.toNat).1 u k b
theorem tr_wf {g u : St} {k z : Int} (h : wf g k 1) (hc : g 1 k 0 0 < 100000) (ht : tr g u k z) : wf u k 1 ∧ u 1 k 0 0 = g 1 k 0 0 + 1 := by
  obtain ⟨b, hb, hlo, hhi, -, v, ⟨d1, d2, d3, d4, d5⟩, rfl⟩ := ht
  have hw := caN_wf (tbG_wf h hc) b.toNat
  have c1 := caN_f (tbG g k) k (f := 1) (by decide) (by decide) b.toNat
  have c5 := caN_f (tbG g k) k (f := 5) (by decide) (by decide) b.toNat
  have c7 := caN_f (tbG g k) k (f := 7) (by decide) (by decide) b.toNat
  have t5 := tbG_f g k (f := 5) (by decide) (by decide)
  have t7 := tbG_f g k (f := 7) (by decide) (by decide)
  obtain ⟨hS0, hS1, hS2, hB0, hB1, hB2, hCl, hN, hPl, hPm, hPj, hEc, hSo⟩ := hw
  obtain ⟨-, -, -, -, -, -, -, -, -, -, -, hEg, hSg⟩ := id h
  have v2 : ∀ i, v 2 k 0 i = (caN (tbG g k) k b.toNat).1 2 k 0 i := fun i => d1 2 k 0 i (by omega)
  have v3 : ∀ i, v 3 k 0 i = (caN (tbG g k) k b.toNat).1 3 k 0 i := fun i => d1 3 k 0 i (by omega)
  have v1 : ∀ i, v 1 k 0 i = (caN (tbG g k) k b.toNat).1 1 k 0 i := fun i => d1 1 k 0 i (by omega)
  have v6 : ∀ j i, v 6 k j i = (caN (tbG g k) k b.toNat).1 6 k j i := fun j i => d1 6 k j i (by omega)
  have v7 : ∀ j i, v 7 k j i = (caN (tbG g k) k b.toNat).1 7 k j i := fun j i => d1 7 k j i (by omega)
  rw [c1, tbG_2] at hN hEc hSo d2
  have q0 : up v 1 k 0 2 ((caN (tbG g k) k b.toNat).1 1 k 0 2 - b) 1 k 0 0 = g 1 k 0 0 + 1 := by rw [up_i (by decide), v1, c1, tbG_0]
  have q2 : up v 1 k 0 2 ((caN (tbG g k) k b.toNat).1 1 k 0 2 - b) 1 k 0 2 = g 1 k 0 2 - b := by rw [up_s, c1, tbG_2]
  refine ⟨?_, q0⟩
  unfold wf okE
  rw [q0, q2]
  simp only [up_ff (show (2 : Nat) ≠ 1 by decide), up_ff (show (3 : Nat) ≠ 1 by decide), up_ff (show (5 : Nat) ≠ 1 by decide), up_ff (show (6 : Nat) ≠ 1 by decide), up_ff (show (7 : Nat) ≠ 1 by decide), v2, v3, v6, v7]
  have hclk := h.2.2.2.2.2.2.1
  have hold : ∀ r, 0 ≤ r → r < g 1 k 0 2 - b → v 5 k 0 r = g 5 k 0 (r + b) := fun r h0 h1 => by rw [d2 r h0 h1, c5, t5]
  refine ⟨hS0, hS1, hS2, hB0, hB1, hB2, by omega, by omega, hPl, d4, d5, fun i h0 h1 => ?_, fun i j h0 hij h1 => ?_⟩
  · rw [hold i h0 h1]
    have a1 := hEc (i + b) (by omega) (by omega)
    unfold okE at a1
    rw [c5, t5, c1, tbG_0] at a1
    have a2 := hSg b (i + b) hb.1 (by omega) (by omega)
    have a3 := hhi (by omega)
    unfold eF at a3
    rw [c7, t7] at a1 ⊢
    omega
  · rw [hold i h0 (by omega), hold j (by omega) h1, c7, t7]
    exact hSg (i + b) (j + b) (by omega) (by omega) (by omega)
/-- so many turns -/
def trs (k : Int) : Nat → St → St → Int → Prop
  | 0, g, u, z => u = g ∧ z = 0
  | n + 1, g, u, z => ∃ v y x, trs k n g v y ∧ tr v u k x ∧ z = y + x
theorem icR_01 (g : St) (k r : Int) : icR g k r = 0 ∨ icR g k r = 1 := by unfold icR; (repeat' split) <;> simp
/-- two echoes of a call -/
def seG (g : St) (k p : Int) : St := up g 6 k p 2 (g 6 k p 2 + 1)
def se (g u : St) (k p w z : Int) : Prop := (6 < eOf g k p + 2 ∧ z = -1 ∧ u = up g 1 k 0 1 (g 1 k 0 1 + 1)) ∨ (eOf g k p + 2 ≤ 6 ∧ z = min (eT g k (g 6 k p 0) 0) (eT g k (g 6 k p 0) 1) ∧ ∃ a b, adC (seG g k p) k p 0 a ∧ adC (adG (seG g k p) k p w 0 a) k p 1 b ∧ u = adG (adG (seG g k p) k p w 0 a) k p w 1 b)
theorem seG_f (g : St) (k p : Int) {f : Nat} (h : f ≠ 6) : seG g k p f = g f := up_ff h
theorem eT_eq {g u : St} {k p w : Int} (h : u 2 = g 2) : eT u k p w = eT g k p w := by unfold eT; rw [h]
/-- the copy of a canyon -/
def cp1 (g : St) (k o : Int) : St := fun f k' j i => if f = 1 ∧ k' = k ∧ j = 0 ∧ (0 ≤ i ∧ i ≤ 2) then g 1 o 0 i else if f = 3 ∧ k' = k ∧ j = 0 ∧ (0 ≤ i ∧ i ≤ 2) then g 3 o 0 i else g f k' j i
def cp2 (g : St) (k o : Int) : St := fun f k' j i => if f = 2 ∧ k' = k ∧ j = 0 ∧ (0 ≤ i ∧ i ≤ 2) then g 2 o 0 i else cp1 g k o f k' j i
def cp3 (g : St) (k o n : Int) : St := fun f k' j i => if f = 6 ∧ k' = k ∧ (0 ≤ j ∧ j < n) ∧ (0 ≤ i ∧ i ≤ 5) then g 6 o j i else cp2 g k o f k' j i
def cp7 (g : St) (k o c q : Int) : St := up (up (up (up (up g 7 k c 0 (g 7 o q 0)) 7 k c 1 (g 7 o q 1)) 7 k c 2 (g 7 o q 2)) 7 k c 3 (g 7 o q 3)) 7 k c 4 (g 7 o q 4)
def cpE (g : St) (k o : Int) : Nat → St
  | 0 => cp3 g k o 4
  | n + 1 => cp7 (cpE g k o n) k o (g 5 k 0 n) (g 5 o 0 n)
theorem cp3_0 (g : St) (k o : Int) : cp3 g k o 0 = cp2 g k o := by
  funext f k' j i; simp only [cp3]; rw [if_neg (by omega)]
theorem cp3_s (g : St) (k o n : Int) (h : k ≠ o) (hn : 0 ≤ n) : (up (up (up (up (up (up (cp3 g k o n) 6 k n 0 (g 6 o n 0)) 6 k n 1 (g 6 o n 1)) 6 k n 2 (g 6 o n 2)) 6 k n 3 (g 6 o n 3)) 6 k n 4 (g 6 o n 4)) 6 k n 5 (g 6 o n 5)) = cp3 g k o (n + 1) := by
  funext f k' j i
  simp only [cp3, up]; grind
theorem cp3_o (g : St) (k o n : Int) (h : k ≠ o) (f : Nat) (j i : Int) : cp3 g k o n f o j i = g f o j i := by
  simp only [cp3, cp2, cp1]; grind
theorem cp3_5 (g : St) (k o n : Int) : cp3 g k o n 5 = g 5 := by
  funext k' j i; simp only [cp3, cp2, cp1]; grind
theorem cp7_f (g : St) (k o c q : Int) {f : Nat} (h : f ≠ 7) : cp7 g k o c q f = g f := by
  unfold cp7; simp only [up_ff h]
theorem cp7_o (g : St) (k o c q : Int) (h : k ≠ o) (j i : Int) : cp7 g k o c q 7 o j i = g 7 o j i := by
  unfold cp7; simp only [up_k (Ne.symm h)]
theorem cpE_o (g : St) (k o : Int) (h : k ≠ o) (f : Nat) (j i : Int) : ∀ n, cpE g k o n f o j i = g f o j i
  | 0 => cp3_o g k o 4 h f j i
  | n + 1 => by
    rw [cpE]
    by_cases hf : f = 7
    · subst hf; rw [cp7_o _ _ _ _ _ h]; exact cpE_o g k o h 7 j i n
    · rw [cp7_f _ _ _ _ _ hf]; exact cpE_o g k o h f j i n
theorem cpE_5 (g : St) (k o : Int) : ∀ n, cpE g k o n 5 = g 5
  | 0 => cp3_5 g k o 4
  | n + 1 => by rw [cpE, cp7_f _ _ _ _ _ (by decide)]; exact cpE_5 g k o n
theorem cpE_1 (g : St) (k o : Int) : ∀ n, cpE g k o n 1 k 0 2 = g 1 o 0 2
  | 0 => by simp only [cpE, cp3, cp2, cp1]; grind
  | n + 1 => by rw [cpE, cp7_f _ _ _ _ _ (by decide)]; exact cpE_1 g k o n
theorem cpE_s (g : St) (k o i : Int) (h : 0 ≤ i) : cpE g k o (i + 1).toNat = cp7 (cpE g k o i.toNat) k o (g 5 k 0 i) (g 5 o 0 i) := by
  rw [show (i + 1).toNat = i.toNat + 1 by omega, cpE, show ((i.toNat : Nat) : Int) = i by omega]

theorem cw_RX1_51 : CW RX1 51 RX0 yX0_copyFrom cX0_copyFrom 2 none 1 := ⟨u_11_2, u_11_3, u_11_4, u_2_3, u_11_5, by decide +kernel⟩
theorem cw_RX1_55 : CW RX1 55 RX4 yX4_copyFrom cX4_copyFrom 2 none 1 := ⟨u_11_6, u_11_7, u_11_8, u_2_17, u_11_9, by decide +kernel⟩
theorem cw_RX1_58 : CW RX1 58 RX2 yX2_copyFrom cX2_copyFrom 2 none 1 := ⟨u_11_15, u_11_16, u_11_17, u_2_19, u_11_18, by decide +kernel⟩
theorem cw_RX1_87 : CW RX1 87 RX1 yX1_addEcho cX1_addEcho 6 none 3 := ⟨u_12_5, u_12_6, u_12_7, u_1_12, u_12_8, by decide +kernel⟩
theorem cw_RX1_106 : CW RX1 106 RX1 yX1_goTurn cX1_goTurn 3 (some .int) 0 := ⟨u_14_20, u_14_21, u_14_22, u_1_12, u_14_23, by decide +kernel⟩
theorem cw_RX1_109 : CW RX1 109 RX0 yX0_goTurn cX0_goTurn 3 none 1 := ⟨u_15_0, u_15_1, u_15_2, u_2_3, u_15_3, by decide +kernel⟩
theorem cw_RX1_111 : CW RX1 111 RX1 yX1_isCatch cX1_isCatch 4 (some .boolean) 1 := ⟨u_15_8, u_15_9, u_15_10, u_1_12, u_15_11, by decide +kernel⟩
theorem cw_RX1_115 : CW RX1 115 RX1 yX1_dropFirstEchoes cX1_dropFirstEchoes 4 none 1 := ⟨u_15_17, u_15_18, u_15_19, u_1_12, u_15_20, by decide +kernel⟩
set_option maxHeartbeats 4000000 in
set_option maxRecDepth 100000 in
theorem ct_X1_goTurn (l : Launch) (L : Lay) (g : St) (k : Int) (hk : 0 ≤ k ∧ k < 9) (hw : wf g k 1) (hcl : g 1 k 0 0 < 100000) : Met l yX1_goTurn (.code yX1_goTurn cX1_goTurn 3 (some .int) :: wsL_law) { frames := 3, cells := 0, slots := 0, locals := 68 } (va_Pc [.ref (adr L 1 k 0)] (HS L g)) (va_Qi (fun (r9 : Int32) (u : St) => ∃ z : Int, r9 = iI z ∧ (tr g u k z)) (fun u t => HS L u t) (Af L)) 0 0 (Af L) := by
  refine ct_mk (by decide +kernel) (Nat.le_of_ble_eq_true rfl) ?_
  intro pp ee ss mm bel mth cx C hr hlk
  show V pp l ee { frames := 3, cells := 0, slots := 0, locals := 68 } ss mm ([.ref (adr L 1 k 0)]).toArray bel mth cx 3 L (HH L g) 0 0 _ 0 [(0, .ref (adr L 1 k 0))] []
  obtain ⟨hS0, hS1, hS2, hB0, hB1, hB2, hCl, hN, hPl, hPm, hPj, hEc, hSo⟩ := id hw
  have hw0 := tbG_wf hw hcl
  refine v_aload_n (pc := 0) C 0 rfl rfl dX1_goTurn_0 ?_
  refine v_dup (pc := 1) C rfl dX1_goTurn_1 ?_
  refine gt_1_0 (pc := 2) C ⟨by (first | assumption | omega | (simp [up] <;> omega)), by (first | assumption | omega | (simp [up] <;> omega))⟩ u_6_3 dX1_goTurn_2 (g 1 k 0 0) (rfl) ?_
  refine v_iconst (pc := 5) C dX1_goTurn_5 ?_
  refine v_iadd (pc := 6) C dX1_goTurn_6 ?_
  refine pt_1_0 (pc := 7) C ⟨by (first | assumption | omega | (simp [up] <;> omega)), by (first | assumption | omega | (simp [up] <;> omega))⟩ u_6_3 dX1_goTurn_7 ?_
  refine v_aload_n (pc := 10) C 0 rfl rfl dX1_goTurn_10 ?_
  refine gt_1_4 (pc := 11) C ⟨by (first | assumption | omega | (simp [up] <;> omega)), by (first | assumption | omega | (simp [up] <;> omega))⟩ u_2_11 dX1_goTurn_11 ?_
  refine v_aload_n (pc := 14) C 0 rfl rfl dX1_goTurn_14 ?_
  refine v_calliV (pc := 15) C cw_RX1_73 (rcv_1 ⟨by (first | assumption | omega | (simp [up] <;> omega)), by (first | assumption | omega | (simp [up] <;> omega))⟩) (ct_X1_lastPlace l L (up g 1 k 0 0 ((g 1 k 0 0) + 1)) k (by first | assumption | omega | (simp [up] <;> omega))) ⟨Nat.le_of_ble_eq_true rfl, Nat.le_of_ble_eq_true rfl⟩ rfl (Nat.le_of_ble_eq_true rfl) ⟨Nat.le_of_ble_eq_true rfl, Nat.le_of_ble_eq_true rfl⟩ rfl dX1_goTurn_15 (fun r9 u9 hP_1 => ?_)
  obtain ⟨hP_1, hP_1b⟩ := hP_1
  rw [hP_1, hP_1b]
  clear hP_1 hP_1b r9 u9
  refine v_callvV (pc := 18) C cw_RX1_109 (rcv_3 ⟨by (first | assumption | omega | (simp [up] <;> omega)), by (first | assumption | omega | (simp [up] <;> omega))⟩) (ct_X0_goTurn l L (up g 1 k 0 0 ((g 1 k 0 0) + 1)) k ((up g 1 k 0 0 ((g 1 k 0 0) + 1)) 2 k 0 0) (by first | assumption | omega | (simp [up] <;> omega)) (by first | assumption | omega | (simp [up] <;> omega)) (by first | assumption | omega | (simp [up] <;> omega)) (by first | assumption | omega | (simp [up] <;> omega)) (by first | assumption | omega | (simp [up] <;> omega)) (by first | assumption | omega | (simp [up] <;> omega))) ⟨Nat.le_of_ble_eq_true rfl, Nat.le_of_ble_eq_true rfl⟩ rfl (Nat.le_of_ble_eq_true rfl) ⟨Nat.le_of_ble_eq_true rfl, Nat.le_of_ble_eq_true rfl⟩ rfl dX1_goTurn_18 (fun u9 hP_2 => ?_)
  rw [hP_2]
  clear hP_2 u9
  refine v_st (g2 := tbG g k) C (by simp only [tbG, up_ff (show (2 : Nat) ≠ 1 by decide), up_ff (show (3 : Nat) ≠ 1 by decide)]) ?_
  refine v_iconst (pc := 21) C dX1_goTurn_21 ?_
  refine v_istore_n (pc := 22) C [(1, .int (iI 0)), (0, .ref (adr L 1 k 0))] rfl (by decide) rfl dX1_goTurn_22 ?_
  refine v_iconst (pc := 23) C dX1_goTurn_23 ?_
  refine v_istore_n (pc := 24) C [(2, .int (iI 0)), (1, .int (iI 0)), (0, .ref (adr L 1 k 0))] rfl (by decide) rfl dX1_goTurn_24 ?_
  have lb25 : ∀ (n9 : Nat) (b : Int) (q : Int), (0 ≤ b ∧ b ≤ g 1 k 0 2) → (∀ i, 0 ≤ i → i < b → eF g k i 3 ≤ g 1 k 0 0 + 1) → (q = (caN (tbG g k) k b.toNat).2) → (g 1 k 0 2 - b).toNat < n9 → V pp l ee { frames := 3, cells := 0, slots := 0, locals := 68 } ss mm ([.ref (adr L 1 k 0)]).toArray bel mth cx 3 L (HH L ((caN (tbG g k) k b.toNat).1)) 0 0 (MQ bel (va_Qi (fun (r9 : Int32) (u : St) => ∃ z : Int, r9 = iI z ∧ (tr g u k z)) (fun u t => HS L u t) (Af L)) ([.ref (adr L 1 k 0)]).toArray ss 0 0 (Af L)) 25 [(0, .ref (adr L 1 k 0)), (1, .int (iI q)), (2, .int (iI b))] [] := by
    intro n9
    induction n9 with
    | zero => intro b q hb hlo hq hm9; exact absurd hm9 (Nat.not_lt_zero _)
    | succ n9 ih9 =>
      intro b q hb hlo hq hm9
      have hwb := caN_wf hw0 b.toNat
      have n1 : (caN (tbG g k) k b.toNat).1 1 k 0 2 = g 1 k 0 2 := (by rw [caN_f _ _ (by decide) (by decide), tbG_2])
      have n0 : (caN (tbG g k) k b.toNat).1 1 k 0 0 = g 1 k 0 0 + 1 := (by rw [caN_f _ _ (by decide) (by decide), tbG_0])
      have ih25 := ih9
      refine v_iload_n (pc := 25) C 2 rfl rfl dX1_goTurn_25 ?_
      refine v_aload_n (pc := 26) C 0 rfl rfl dX1_goTurn_26 ?_
      refine gt_1_2 (pc := 27) C ⟨by (first | assumption | omega | (simp [up] <;> omega)), by (first | assumption | omega | (simp [up] <;> omega))⟩ u_6_2 dX1_goTurn_27 (g 1 k 0 2) (n1) ?_
      refine v_icmp_ge (pc := 30) C 66 ⟨by (first | assumption | omega | (simp [up] <;> omega)), by (first | assumption | omega | (simp [up] <;> omega))⟩ ⟨by (first | assumption | omega | (simp [up] <;> omega)), by (first | assumption | omega | (simp [up] <;> omega))⟩ (by decide) dX1_goTurn_30 (fun h30 => ?_) (fun h30 => ?_)
      · skip
        refine v_aload_n (pc := 66) C 0 rfl rfl dX1_goTurn_66 ?_
        refine v_iload_n (pc := 67) C 2 rfl rfl dX1_goTurn_67 ?_
        refine v_callvV (pc := 68) C cw_RX1_115 (rcv_1 ⟨by (first | assumption | omega | (simp [up] <;> omega)), by (first | assumption | omega | (simp [up] <;> omega))⟩) (ct_X1_dropFirstEchoes l L ((caN (tbG g k) k b.toNat).1) k 0 b (by first | assumption | omega | (simp [up] <;> omega)) (by exact hwb) (by first | assumption | omega | (simp [up] <;> omega)) (by rw [n1]; omega)) ⟨Nat.le_of_ble_eq_true rfl, Nat.le_of_ble_eq_true rfl⟩ rfl (Nat.le_of_ble_eq_true rfl) ⟨Nat.le_of_ble_eq_true rfl, Nat.le_of_ble_eq_true rfl⟩ rfl dX1_goTurn_68 (fun u_4 hP_3 => ?_)
        refine v_iload_n (pc := 71) C 1 rfl rfl dX1_goTurn_71 ?_
        exact v_iret (pc := 72) C hr hlk (⟨q, rfl, b, hb, hlo, fun hh => by unfold eF; omega, hq, hP_3⟩) dX1_goTurn_72
      · skip
        refine v_aload_n (pc := 33) C 0 rfl rfl dX1_goTurn_33 ?_
        refine gt_1_6 (pc := 34) C ⟨by (first | assumption | omega | (simp [up] <;> omega)), by (first | assumption | omega | (simp [up] <;> omega))⟩ u_2_15 dX1_goTurn_34 ?_
        have hp37 := hPm b (by omega) (by omega)
        have he37 := hEc b (by omega) (by omega)
        unfold okE at he37
        refine v_iload_n (pc := 37) C 2 rfl rfl dX1_goTurn_37 ?_
        refine al_5 (pc := 38) C ⟨by (first | assumption | omega | (simp [up] <;> omega)), by (first | assumption | omega | (simp [up] <;> omega))⟩ ⟨by (first | assumption | omega | (simp [up] <;> omega)), by (first | assumption | omega | (simp [up] <;> omega))⟩ dX1_goTurn_38 (g 5 k 0 b) (by rw [caN_f _ _ (by decide) (by decide), tbG_f _ _ (by decide) (by decide)]) ?_
        refine gt_7_3 (pc := 39) C ⟨⟨by (first | assumption | omega | (simp [up] <;> omega)), by (first | assumption | omega | (simp [up] <;> omega))⟩, ⟨by (first | assumption | omega | (simp [up] <;> omega)), by (first | assumption | omega | (simp [up] <;> omega))⟩⟩ u_9_11 dX1_goTurn_39 (g 7 k (g 5 k 0 b) 3) (by rw [caN_f _ _ (by decide) (by decide), tbG_f _ _ (by decide) (by decide)]) ?_
        refine v_aload_n (pc := 42) C 0 rfl rfl dX1_goTurn_42 ?_
        refine gt_1_0 (pc := 43) C ⟨by (first | assumption | omega | (simp [up] <;> omega)), by (first | assumption | omega | (simp [up] <;> omega))⟩ u_6_3 dX1_goTurn_43 (g 1 k 0 0 + 1) (n0) ?_
        refine v_icmp_gt (pc := 46) C 66 ⟨by (first | assumption | omega | (simp [up] <;> omega)), by (first | assumption | omega | (simp [up] <;> omega))⟩ ⟨by (first | assumption | omega | (simp [up] <;> omega)), by (first | assumption | omega | (simp [up] <;> omega))⟩ (by decide) dX1_goTurn_46 (fun h46 => ?_) (fun h46 => ?_)
        · skip
          refine v_aload_n (pc := 66) C 0 rfl rfl dX1_goTurn_66 ?_
          refine v_iload_n (pc := 67) C 2 rfl rfl dX1_goTurn_67 ?_
          refine v_callvV (pc := 68) C cw_RX1_115 (rcv_1 ⟨by (first | assumption | omega | (simp [up] <;> omega)), by (first | assumption | omega | (simp [up] <;> omega))⟩) (ct_X1_dropFirstEchoes l L ((caN (tbG g k) k b.toNat).1) k 0 b (by first | assumption | omega | (simp [up] <;> omega)) (by exact hwb) (by first | assumption | omega | (simp [up] <;> omega)) (by rw [n1]; omega)) ⟨Nat.le_of_ble_eq_true rfl, Nat.le_of_ble_eq_true rfl⟩ rfl (Nat.le_of_ble_eq_true rfl) ⟨Nat.le_of_ble_eq_true rfl, Nat.le_of_ble_eq_true rfl⟩ rfl dX1_goTurn_68 (fun u_7 hP_6 => ?_)
          refine v_iload_n (pc := 71) C 1 rfl rfl dX1_goTurn_71 ?_
          exact v_iret (pc := 72) C hr hlk (⟨q, rfl, b, hb, hlo, fun hh => by unfold eF; omega, hq, hP_6⟩) dX1_goTurn_72
        · skip
          refine v_aload_n (pc := 49) C 0 rfl rfl dX1_goTurn_49 ?_
          refine v_iload_n (pc := 50) C 2 rfl rfl dX1_goTurn_50 ?_
          refine v_calliV (pc := 51) C cw_RX1_111 (rcv_1 ⟨by (first | assumption | omega | (simp [up] <;> omega)), by (first | assumption | omega | (simp [up] <;> omega))⟩) (ct_X1_isCatch l L ((caN (tbG g k) k b.toNat).1) k 0 b (by first | assumption | omega | (simp [up] <;> omega)) (by exact hwb) (by first | assumption | omega | (simp [up] <;> omega)) (by rw [n1]; omega)) ⟨Nat.le_of_ble_eq_true rfl, Nat.le_of_ble_eq_true rfl⟩ rfl (Nat.le_of_ble_eq_true rfl) ⟨Nat.le_of_ble_eq_true rfl, Nat.le_of_ble_eq_true rfl⟩ rfl dX1_goTurn_51 (fun r9 u9 hP_9 => ?_)
          obtain ⟨hP_9, hP_9b⟩ := hP_9
          rw [hP_9, hP_9b]
          clear hP_9 hP_9b r9 u9
          refine v_if_eq (pc := 54) C 60 ⟨by unfold icR; (repeat' split) <;> decide, by unfold icR; (repeat' split) <;> decide⟩ (by decide) dX1_goTurn_54 (fun h54 => ?_) (fun h54 => ?_)
          · skip
            refine v_iinc (pc := 60) C 2 [(2, .int (iI (b + 1))), (0, .ref (adr L 1 k 0)), (1, .int (iI q))] rfl (by decide) rfl dX1_goTurn_60 ?_
            refine v_goto (pc := 63) C 25 (by decide) dX1_goTurn_63 ?_
            refine v_lsub [1, 2, 0] rfl ?_
            refine v_st (g2 := (caN (tbG g k) k (b + 1).toNat).1) C (by rw [caN_s hb.1]) ?_
            exact ih25 (b + 1) q (by omega) (by intro i h0 h1; exact (if hi : i = b then (by rw [hi]; unfold eF; omega) else hlo i h0 (by omega))) (by have h01 := icR_01 (caN (tbG g k) k b.toNat).1 k b; rw [caN_s hb.1, hq]; show _ = _ + _; omega) (by omega)
          · skip
            refine v_iinc (pc := 57) C 1 [(1, .int (iI (q + 1))), (0, .ref (adr L 1 k 0)), (2, .int (iI b))] rfl (by decide) rfl dX1_goTurn_57 ?_
            refine v_iinc (pc := 60) C 2 [(2, .int (iI (b + 1))), (1, .int (iI (q + 1))), (0, .ref (adr L 1 k 0))] rfl (by decide) rfl dX1_goTurn_60 ?_
            refine v_goto (pc := 63) C 25 (by decide) dX1_goTurn_63 ?_
            refine v_lsub [2, 1, 0] rfl ?_
            refine v_st (g2 := (caN (tbG g k) k (b + 1).toNat).1) C (by rw [caN_s hb.1]) ?_
            exact ih25 (b + 1) (q + 1) (by omega) (by intro i h0 h1; exact (if hi : i = b then (by rw [hi]; unfold eF; omega) else hlo i h0 (by omega))) (by have h01 := icR_01 (caN (tbG g k) k b.toNat).1 k b; rw [caN_s hb.1, hq]; show _ = _ + _; omega) (by omega)
  refine v_lsub [2, 1, 0] rfl ?_
  refine v_st (g2 := (caN (tbG g k) k (0 : Int).toNat).1) C (by rfl) ?_
  exact lb25 _ 0 0 (by omega) (by intro i h0 h1; omega) (by rfl) (Nat.lt_succ_self _)
set_option maxHeartbeats 4000000 in
set_option maxRecDepth 100000 in
theorem ct_X1_goTurns (l : Launch) (L : Lay) (g : St) (k t : Int) (hk : 0 ≤ k ∧ k < 9) (hw : wf g k 1) (ht : 0 ≤ t ∧ t ≤ 99) (hcl : g 1 k 0 0 + t ≤ 99999) : Met l yX1_goTurns (.code yX1_goTurns cX1_goTurns 4 (some .int) :: wsL_law) { frames := 4, cells := 0, slots := 0, locals := 90 } (va_Pc [.ref (adr L 1 k 0), .int (iI t)] (HS L g)) (va_Qi (fun (r9 : Int32) (u : St) => ∃ z : Int, r9 = iI z ∧ (trs k t.toNat g u z)) (fun u t => HS L u t) (Af L)) 0 0 (Af L) := by
  refine ct_mk (by decide +kernel) (Nat.le_of_ble_eq_true rfl) ?_
  intro pp ee ss mm bel mth cx C hr hlk
  show V pp l ee { frames := 4, cells := 0, slots := 0, locals := 90 } ss mm ([.ref (adr L 1 k 0), .int (iI t)]).toArray bel mth cx 4 L (HH L g) 0 0 _ 0 [(0, .ref (adr L 1 k 0)), (1, .int (iI t))] []
  refine v_iconst (pc := 0) C dX1_goTurns_0 ?_
  refine v_istore_n (pc := 1) C [(2, .int (iI 0)), (0, .ref (adr L 1 k 0)), (1, .int (iI t))] rfl (by decide) rfl dX1_goTurns_1 ?_
  refine v_iconst (pc := 2) C dX1_goTurns_2 ?_
  refine v_istore_n (pc := 3) C [(3, .int (iI 0)), (2, .int (iI 0)), (0, .ref (adr L 1 k 0)), (1, .int (iI t))] rfl (by decide) rfl dX1_goTurns_3 ?_
  have lb4 : ∀ (n9 : Nat) (i : Int) (q : Int) (u : St), (0 ≤ i ∧ i ≤ t) → (trs k i.toNat g u q) → (wf u k 1) → (u 1 k 0 0 = g 1 k 0 0 + i) → (t - i).toNat < n9 → V pp l ee { frames := 4, cells := 0, slots := 0, locals := 90 } ss mm ([.ref (adr L 1 k 0), .int (iI t)]).toArray bel mth cx 4 L (HH L u) 0 0 (MQ bel (va_Qi (fun (r9 : Int32) (u : St) => ∃ z : Int, r9 = iI z ∧ (trs k t.toNat g u z)) (fun u t => HS L u t) (Af L)) ([.ref (adr L 1 k 0), .int (iI t)]).toArray ss 0 0 (Af L)) 4 [(0, .ref (adr L 1 k 0)), (1, .int (iI t)), (2, .int (iI q)), (3, .int (iI i))] [] := by
    intro n9
    induction n9 with
    | zero => intro i q u hi hu hwu hcu hm9; exact absurd hm9 (Nat.not_lt_zero _)
    | succ n9 ih9 =>
      intro i q u hi hu hwu hcu hm9
      have ih4 := ih9
      refine v_iload_n (pc := 4) C 3 rfl rfl dX1_goTurns_4 ?_
      refine v_iload_n (pc := 5) C 1 rfl rfl dX1_goTurns_5 ?_
      refine v_icmp_ge (pc := 6) C 22 ⟨by (first | assumption | omega | (simp [bl, up] <;> omega)), by (first | assumption | omega | (simp [bl, up] <;> omega))⟩ ⟨by (first | assumption | omega | (simp [bl, up] <;> omega)), by (first | assumption | omega | (simp [bl, up] <;> omega))⟩ (by decide) dX1_goTurns_6 (fun h6 => ?_) (fun h6 => ?_)
      · skip
        refine v_iload_n (pc := 22) C 2 rfl rfl dX1_goTurns_22 ?_
        exact v_iret (pc := 23) C hr hlk (⟨q, rfl, by rw [show t = i by omega]; exact hu⟩) dX1_goTurns_23
      · skip
        refine v_iload_n (pc := 9) C 2 rfl rfl dX1_goTurns_9 ?_
        refine v_aload_n (pc := 10) C 0 rfl rfl dX1_goTurns_10 ?_
        refine v_calliV (pc := 11) C cw_RX1_106 (rcv_1 ⟨by (first | assumption | omega | (simp [bl, up] <;> omega)), by (first | assumption | omega | (simp [bl, up] <;> omega))⟩) (ct_X1_goTurn l L u k (by first | assumption | omega | (simp [bl, up] <;> omega)) (by exact hwu) (by omega)) ⟨Nat.le_of_ble_eq_true rfl, Nat.le_of_ble_eq_true rfl⟩ rfl (Nat.le_of_ble_eq_true rfl) ⟨Nat.le_of_ble_eq_true rfl, Nat.le_of_ble_eq_true rfl⟩ rfl dX1_goTurns_11 (fun r9 v1 hP_1 => ?_)
        obtain ⟨z1, rfl, hP_1⟩ := hP_1
        refine v_iadd (pc := 14) C dX1_goTurns_14 ?_
        refine v_istore_n (pc := 15) C [(2, .int (iI (q + z1))), (0, .ref (adr L 1 k 0)), (1, .int (iI t)), (3, .int (iI i))] rfl (by decide) rfl dX1_goTurns_15 ?_
        refine v_iinc (pc := 16) C 3 [(3, .int (iI (i + 1))), (2, .int (iI (q + z1))), (0, .ref (adr L 1 k 0)), (1, .int (iI t))] rfl (by decide) rfl dX1_goTurns_16 ?_
        refine v_goto (pc := 19) C 4 (by decide) dX1_goTurns_19 ?_
        refine v_lsub [2, 3, 1, 0] rfl ?_
        exact ih4 (i + 1) (q + z1) v1 (by omega) (by rw [show (i + 1).toNat = i.toNat + 1 by omega]; exact ⟨u, q, z1, hu, hP_1, rfl⟩) (by exact (tr_wf hwu (by omega) hP_1).1) (by rw [(tr_wf hwu (by omega) hP_1).2]; omega) (by omega)
  refine v_lsub [2, 3, 1, 0] rfl ?_
  exact lb4 _ 0 0 g (by omega) (by exact ⟨rfl, rfl⟩) (by exact hw) (by omega) (Nat.lt_succ_self _)
set_option maxHeartbeats 4000000 in
set_option maxRecDepth 100000 in
theorem ct_X1_sendEchoes (l : Launch) (L : Lay) (g : St) (k p w : Int) (hk : 0 ≤ k ∧ k < 9) (hw : wf g k 1) (hp : 0 ≤ p ∧ p < 4) (hw2 : 0 ≤ w ∧ w ≤ 9) (hn : eOf g k p + 2 ≤ 6 → g 1 k 0 2 + 2 ≤ 24) : Met l yX1_sendEchoes (.code yX1_sendEchoes cX1_sendEchoes 4 (some .int) :: wsL_law) { frames := 3, cells := 0, slots := 0, locals := 71 } (va_Pc [.ref (adr L 1 k 0), .int (iI p), .int (iI w)] (HS L g)) (va_Qi (fun (r9 : Int32) (u : St) => ∃ z : Int, r9 = iI z ∧ (se g u k p w z)) (fun u t => HS L u t) (Af L)) 0 0 (Af L) := by
  refine ct_mk (by decide +kernel) (Nat.le_of_ble_eq_true rfl) ?_
  intro pp ee ss mm bel mth cx C hr hlk
  show V pp l ee { frames := 3, cells := 0, slots := 0, locals := 71 } ss mm ([.ref (adr L 1 k 0), .int (iI p), .int (iI w)]).toArray bel mth cx 4 L (HH L g) 0 0 _ 0 [(0, .ref (adr L 1 k 0)), (1, .int (iI p)), (2, .int (iI w))] []
  obtain ⟨hS0, hS1, hS2, hB0, hB1, hB2, hCl, hN, hPl, hPm, hPj, hEc, hSo⟩ := id hw
  have hpl := hPl p hp.1 hp.2
  have hty0 := eT_in (w := 0) hw hpl
  have hty1 := eT_in (w := 1) hw hpl
  have hcn : 0 ≤ eOf g k p ∧ eOf g k p ≤ 24 := ⟨(cn_nn _ _).1, by have := (cn_nn (pOf g k p) (g 1 k 0 2).toNat).2; show cn _ _ ≤ 24; omega⟩
  have hws : wf (seG g k p) k 1 := wf_up6 (by decide) hw
  refine v_aload_n (pc := 0) C 0 rfl rfl dX1_sendEchoes_0 ?_
  refine v_iload_n (pc := 1) C 1 rfl rfl dX1_sendEchoes_1 ?_
  refine v_calliV (pc := 2) C cw_RX1_80 (rcv_1 ⟨by (first | assumption | omega | (simp [bl, up] <;> omega)), by (first | assumption | omega | (simp [bl, up] <;> omega))⟩) (ct_X1_echoesOf l L g k 1 p (by first | assumption | omega | (simp [bl, up] <;> omega)) (by first | assumption | omega | (simp [bl, up] <;> omega)) (by first | assumption | omega | (simp [bl, up] <;> omega)) (by first | assumption | omega | (simp [bl, up] <;> omega))) ⟨Nat.le_of_ble_eq_true rfl, Nat.le_of_ble_eq_true rfl⟩ rfl (Nat.le_of_ble_eq_true rfl) ⟨Nat.le_of_ble_eq_true rfl, Nat.le_of_ble_eq_true rfl⟩ rfl dX1_sendEchoes_2 (fun r9 u9 hP_1 => ?_)
  obtain ⟨hP_1, hP_1b⟩ := hP_1
  rw [hP_1, hP_1b]
  clear hP_1 hP_1b r9 u9
  refine v_iconst (pc := 5) C dX1_sendEchoes_5 ?_
  refine v_iadd (pc := 6) C dX1_sendEchoes_6 ?_
  refine v_bipush (pc := 7) C rfl dX1_sendEchoes_7 ?_
  refine v_icmp_le (pc := 9) C 24 ⟨by (first | assumption | omega | (simp [bl, up] <;> omega)), by (first | assumption | omega | (simp [bl, up] <;> omega))⟩ ⟨by (first | assumption | omega | (simp [bl, up] <;> omega)), by (first | assumption | omega | (simp [bl, up] <;> omega))⟩ (by decide) dX1_sendEchoes_9 (fun h9 => ?_) (fun h9 => ?_)
  · skip
    have hn2 := hn (by omega)
    refine v_aload_n (pc := 24) C 0 rfl rfl dX1_sendEchoes_24 ?_
    refine gt_1_5 (pc := 25) C ⟨by (first | assumption | omega | (simp [bl, up] <;> omega)), by (first | assumption | omega | (simp [bl, up] <;> omega))⟩ u_2_13 dX1_sendEchoes_25 ?_
    refine v_iload_n (pc := 28) C 1 rfl rfl dX1_sendEchoes_28 ?_
    refine al_4 (pc := 29) C ⟨by (first | assumption | omega | (simp [bl, up] <;> omega)), by (first | assumption | omega | (simp [bl, up] <;> omega))⟩ ⟨by (first | assumption | omega | (simp [bl, up] <;> omega)), by (first | assumption | omega | (simp [bl, up] <;> omega))⟩ dX1_sendEchoes_29 ?_
    refine v_dup (pc := 30) C rfl dX1_sendEchoes_30 ?_
    refine gt_6_2 (pc := 31) C ⟨⟨by (first | assumption | omega | (simp [bl, up] <;> omega)), by (first | assumption | omega | (simp [bl, up] <;> omega))⟩, ⟨by (first | assumption | omega | (simp [bl, up] <;> omega)), by (first | assumption | omega | (simp [bl, up] <;> omega))⟩⟩ u_8_5 dX1_sendEchoes_31 (g 6 k p 2) (rfl) ?_
    refine v_iconst (pc := 34) C dX1_sendEchoes_34 ?_
    refine v_iadd (pc := 35) C dX1_sendEchoes_35 ?_
    refine pt_6_2 (pc := 36) C ⟨⟨by (first | assumption | omega | (simp [bl, up] <;> omega)), by (first | assumption | omega | (simp [bl, up] <;> omega))⟩, ⟨by (first | assumption | omega | (simp [bl, up] <;> omega)), by (first | assumption | omega | (simp [bl, up] <;> omega))⟩⟩ u_8_5 dX1_sendEchoes_36 ?_
    refine v_st (g2 := seG g k p) C (rfl) ?_
    refine v_iconst (pc := 39) C dX1_sendEchoes_39 ?_
    refine v_istore_n (pc := 40) C [(3, .int (iI 0)), (0, .ref (adr L 1 k 0)), (1, .int (iI p)), (2, .int (iI w))] rfl (by decide) rfl dX1_sendEchoes_40 ?_
    refine v_iload_n (pc := 41) C 0 rfl rfl dX1_sendEchoes_41 ?_
    refine v_iconst (pc := 42) C dX1_sendEchoes_42 ?_
    refine v_icmp_ge (pc := 43) C 59 ⟨by (first | assumption | omega | (simp [bl, up] <;> omega)), by (first | assumption | omega | (simp [bl, up] <;> omega))⟩ ⟨by (first | assumption | omega | (simp [bl, up] <;> omega)), by (first | assumption | omega | (simp [bl, up] <;> omega))⟩ (by decide) dX1_sendEchoes_43 (fun h43 => ?_) (fun h43 => ?_)
    · skip
      exfalso; omega
    · skip
      refine v_aload_n (pc := 46) C 1 rfl rfl dX1_sendEchoes_46 ?_
      refine v_iload_n (pc := 47) C 2 rfl rfl dX1_sendEchoes_47 ?_
      refine v_iload_n (pc := 48) C 3 rfl rfl dX1_sendEchoes_48 ?_
      refine v_iload_n (pc := 49) C 0 rfl rfl dX1_sendEchoes_49 ?_
      refine v_callvV (pc := 50) C cw_RX1_87 (rcv_1 ⟨by (first | assumption | omega | (simp [bl, up] <;> omega)), by (first | assumption | omega | (simp [bl, up] <;> omega))⟩) (ct_X1_addEcho l L (seG g k p) k p w 0 (by first | assumption | omega | (simp [bl, up] <;> omega)) (by first | exact hws | exact hws2) (by first | assumption | omega | (simp [bl, up] <;> omega)) (by first | assumption | omega | (simp [bl, up] <;> omega)) (by first | assumption | omega | (simp [bl, up] <;> omega)) (by first | (rw [hn3]; omega) | (rw [seG_f _ _ _ (by decide)]; omega))) ⟨Nat.le_of_ble_eq_true rfl, Nat.le_of_ble_eq_true rfl⟩ rfl (Nat.le_of_ble_eq_true rfl) ⟨Nat.le_of_ble_eq_true rfl, Nat.le_of_ble_eq_true rfl⟩ rfl dX1_sendEchoes_50 (fun u_3 hP_2 => ?_)
      obtain ⟨a0, hc0, hu0⟩ := hP_2
      rw [hu0]; clear hu0 u_3
      have hws2 := adG_wf (w := w) hws hp hw2 (by omega) (by rw [seG_f _ _ _ (by decide)]; omega) hc0
      have hn3 : adG (seG g k p) k p w 0 a0 1 k 0 2 = g 1 k 0 2 + 1 := (by rw [ad1, if_pos rfl, seG_f _ _ _ (by decide)])
      refine v_iinc (pc := 53) C 0 [(3, .int (iI 1)), (0, .ref (adr L 1 k 0)), (1, .int (iI p)), (2, .int (iI w))] rfl (by decide) rfl dX1_sendEchoes_53 ?_
      refine v_goto (pc := 56) C 41 (by decide) dX1_sendEchoes_56 ?_
      refine v_iload_n (pc := 41) C 0 rfl rfl dX1_sendEchoes_41 ?_
      refine v_iconst (pc := 42) C dX1_sendEchoes_42 ?_
      refine v_icmp_ge (pc := 43) C 59 ⟨by (first | assumption | omega | (simp [bl, up] <;> omega)), by (first | assumption | omega | (simp [bl, up] <;> omega))⟩ ⟨by (first | assumption | omega | (simp [bl, up] <;> omega)), by (first | assumption | omega | (simp [bl, up] <;> omega))⟩ (by decide) dX1_sendEchoes_43 (fun h43 => ?_) (fun h43 => ?_)
      · skip
        exfalso; omega
      · skip
        refine v_aload_n (pc := 46) C 1 rfl rfl dX1_sendEchoes_46 ?_
        refine v_iload_n (pc := 47) C 2 rfl rfl dX1_sendEchoes_47 ?_
        refine v_iload_n (pc := 48) C 3 rfl rfl dX1_sendEchoes_48 ?_
        refine v_iload_n (pc := 49) C 0 rfl rfl dX1_sendEchoes_49 ?_
        refine v_callvV (pc := 50) C cw_RX1_87 (rcv_1 ⟨by (first | assumption | omega | (simp [bl, up] <;> omega)), by (first | assumption | omega | (simp [bl, up] <;> omega))⟩) (ct_X1_addEcho l L (adG (seG g k p) k p w 0 a0) k p w 1 (by first | assumption | omega | (simp [bl, up] <;> omega)) (by first | exact hws | exact hws2) (by first | assumption | omega | (simp [bl, up] <;> omega)) (by first | assumption | omega | (simp [bl, up] <;> omega)) (by first | assumption | omega | (simp [bl, up] <;> omega)) (by first | (rw [hn3]; omega) | (rw [seG_f _ _ _ (by decide)]; omega))) ⟨Nat.le_of_ble_eq_true rfl, Nat.le_of_ble_eq_true rfl⟩ rfl (Nat.le_of_ble_eq_true rfl) ⟨Nat.le_of_ble_eq_true rfl, Nat.le_of_ble_eq_true rfl⟩ rfl dX1_sendEchoes_50 (fun u_6 hP_5 => ?_)
        obtain ⟨a1, hc1, hu1⟩ := hP_5
        rw [hu1]; clear hu1 u_6
        have e2 : adG (adG (seG g k p) k p w 0 a0) k p w 1 a1 2 = g 2 := (by rw [adf _ _ _ _ _ _ (by decide) (by decide) (by decide), adf _ _ _ _ _ _ (by decide) (by decide) (by decide), seG_f _ _ _ (by decide)])
        have e6 : adG (adG (seG g k p) k p w 0 a0) k p w 1 a1 6 k p 0 = g 6 k p 0 := (by rw [adf _ _ _ _ _ _ (by decide) (by decide) (by decide), adf _ _ _ _ _ _ (by decide) (by decide) (by decide)]; simp [seG, up])
        refine v_iinc (pc := 53) C 0 [(3, .int (iI 2)), (0, .ref (adr L 1 k 0)), (1, .int (iI p)), (2, .int (iI w))] rfl (by decide) rfl dX1_sendEchoes_53 ?_
        refine v_goto (pc := 56) C 41 (by decide) dX1_sendEchoes_56 ?_
        refine v_iload_n (pc := 41) C 0 rfl rfl dX1_sendEchoes_41 ?_
        refine v_iconst (pc := 42) C dX1_sendEchoes_42 ?_
        refine v_icmp_ge (pc := 43) C 59 ⟨by (first | assumption | omega | (simp [bl, up] <;> omega)), by (first | assumption | omega | (simp [bl, up] <;> omega))⟩ ⟨by (first | assumption | omega | (simp [bl, up] <;> omega)), by (first | assumption | omega | (simp [bl, up] <;> omega))⟩ (by decide) dX1_sendEchoes_43 (fun h43 => ?_) (fun h43 => ?_)
        · skip
          refine v_aload_n (pc := 59) C 1 rfl rfl dX1_sendEchoes_59 ?_
          refine gt_1_5 (pc := 60) C ⟨by (first | assumption | omega | (simp [bl, up] <;> omega)), by (first | assumption | omega | (simp [bl, up] <;> omega))⟩ u_2_13 dX1_sendEchoes_60 ?_
          refine v_iload_n (pc := 63) C 2 rfl rfl dX1_sendEchoes_63 ?_
          refine al_4 (pc := 64) C ⟨by (first | assumption | omega | (simp [bl, up] <;> omega)), by (first | assumption | omega | (simp [bl, up] <;> omega))⟩ ⟨by (first | assumption | omega | (simp [bl, up] <;> omega)), by (first | assumption | omega | (simp [bl, up] <;> omega))⟩ dX1_sendEchoes_64 ?_
          refine gt_6_0 (pc := 65) C ⟨⟨by (first | assumption | omega | (simp [bl, up] <;> omega)), by (first | assumption | omega | (simp [bl, up] <;> omega))⟩, ⟨by (first | assumption | omega | (simp [bl, up] <;> omega)), by (first | assumption | omega | (simp [bl, up] <;> omega))⟩⟩ u_4_23 dX1_sendEchoes_65 (g 6 k p 0) (e6) ?_
          refine v_istore_n (pc := 68) C [(3, .int (iI (g 6 k p 0))), (0, .ref (adr L 1 k 0)), (1, .int (iI p)), (2, .int (iI w))] rfl (by decide) rfl dX1_sendEchoes_68 ?_
          refine v_aload_n (pc := 69) C 1 rfl rfl dX1_sendEchoes_69 ?_
          refine v_iload_n (pc := 70) C 0 rfl rfl dX1_sendEchoes_70 ?_
          refine v_iconst (pc := 71) C dX1_sendEchoes_71 ?_
          refine v_calliV (pc := 72) C cw_RX1_91 (rcv_1 ⟨by (first | assumption | omega | (simp [bl, up] <;> omega)), by (first | assumption | omega | (simp [bl, up] <;> omega))⟩) (ct_X1_echoTime l L (adG (adG (seG g k p) k p w 0 a0) k p w 1 a1) k (g 6 k p 0) 0 (by first | assumption | omega | (simp [bl, up] <;> omega)) (by rw [e2]; exact hS0) (by rw [e2]; exact hS1) (by rw [e2]; exact hS2) (by rw [e2]; exact hpl) (by omega)) ⟨Nat.le_of_ble_eq_true rfl, Nat.le_of_ble_eq_true rfl⟩ rfl (Nat.le_of_ble_eq_true rfl) ⟨Nat.le_of_ble_eq_true rfl, Nat.le_of_ble_eq_true rfl⟩ rfl dX1_sendEchoes_72 (fun r9 u9 hP_8 => ?_)
          obtain ⟨hP_8, hP_8b⟩ := hP_8
          rw [hP_8, hP_8b]
          clear hP_8 hP_8b r9 u9
          refine v_topi (b := eT g k (g 6 k p 0) 0) C (eT_eq e2) ?_
          refine v_aload_n (pc := 75) C 1 rfl rfl dX1_sendEchoes_75 ?_
          refine v_iload_n (pc := 76) C 0 rfl rfl dX1_sendEchoes_76 ?_
          refine v_iconst (pc := 77) C dX1_sendEchoes_77 ?_
          refine v_calliV (pc := 78) C cw_RX1_91 (rcv_1 ⟨by (first | assumption | omega | (simp [bl, up] <;> omega)), by (first | assumption | omega | (simp [bl, up] <;> omega))⟩) (ct_X1_echoTime l L (adG (adG (seG g k p) k p w 0 a0) k p w 1 a1) k (g 6 k p 0) 1 (by first | assumption | omega | (simp [bl, up] <;> omega)) (by rw [e2]; exact hS0) (by rw [e2]; exact hS1) (by rw [e2]; exact hS2) (by rw [e2]; exact hpl) (by omega)) ⟨Nat.le_of_ble_eq_true rfl, Nat.le_of_ble_eq_true rfl⟩ rfl (Nat.le_of_ble_eq_true rfl) ⟨Nat.le_of_ble_eq_true rfl, Nat.le_of_ble_eq_true rfl⟩ rfl dX1_sendEchoes_78 (fun r9 u9 hP_9 => ?_)
          obtain ⟨hP_9, hP_9b⟩ := hP_9
          rw [hP_9, hP_9b]
          clear hP_9 hP_9b r9 u9
          refine v_topi (b := eT g k (g 6 k p 0) 1) C (eT_eq e2) ?_
          refine v_min (pc := 81) C ⟨by (first | assumption | omega | (simp [bl, up] <;> omega)), by (first | assumption | omega | (simp [bl, up] <;> omega))⟩ ⟨by (first | assumption | omega | (simp [bl, up] <;> omega)), by (first | assumption | omega | (simp [bl, up] <;> omega))⟩ (z := min (eT g k (g 6 k p 0) 0) (eT g k (g 6 k p 0) 1)) (by simp only [Int.max_def, Int.min_def]; (repeat' split) <;> omega) u_12_2 u_12_3 u_5_6 u_12_4 (by decide) (Nat.le_of_ble_eq_true rfl) (by decide) (by decide) dX1_sendEchoes_81 ?_
          exact v_iret (pc := 84) C hr hlk (⟨_, rfl, Or.inr ⟨by omega, rfl, a0, a1, hc0, hc1, rfl⟩⟩) dX1_sendEchoes_84
        · skip
          exfalso; omega
  · skip
    refine v_aload_n (pc := 12) C 0 rfl rfl dX1_sendEchoes_12 ?_
    refine v_dup (pc := 13) C rfl dX1_sendEchoes_13 ?_
    refine gt_1_1 (pc := 14) C ⟨by (first | assumption | omega | (simp [bl, up] <;> omega)), by (first | assumption | omega | (simp [bl, up] <;> omega))⟩ u_7_15 dX1_sendEchoes_14 (g 1 k 0 1) (rfl) ?_
    refine v_iconst (pc := 17) C dX1_sendEchoes_17 ?_
    refine v_iadd (pc := 18) C dX1_sendEchoes_18 ?_
    refine pt_1_1 (pc := 19) C ⟨by (first | assumption | omega | (simp [bl, up] <;> omega)), by (first | assumption | omega | (simp [bl, up] <;> omega))⟩ u_7_15 dX1_sendEchoes_19 ?_
    refine v_iconst (pc := 22) C dX1_sendEchoes_22 ?_
    exact v_iret (pc := 23) C hr hlk (⟨-1, rfl, Or.inl ⟨by omega, rfl, rfl⟩⟩) dX1_sendEchoes_23
set_option maxHeartbeats 4000000 in
set_option maxRecDepth 100000 in
theorem ct_X1_copyFrom (l : Launch) (L : Lay) (g : St) (k o : Int) (hk : 0 ≤ k ∧ k < 9) (ho : 0 ≤ o ∧ o < 9) (hko : k ≠ o) (hpk : ∀ i, 0 ≤ i → i < 24 → 0 ≤ g 5 k 0 i ∧ g 5 k 0 i < 24) (hwo : wf g o 1) : Met l yX1_copyFrom (.code yX1_copyFrom cX1_copyFrom 3 none :: wsL_law) { frames := 1, cells := 0, slots := 0, locals := 21 } (va_Pc [.ref (adr L 1 k 0), .ref (adr L 1 o 0)] (HS L g)) (va_Qv (fun (u9 : St) => u9 = (cpE g k o (g 1 o 0 2).toNat)) (fun u t => HS L u t) (Af L)) 0 0 (Af L) := by
  refine ct_mk (by decide +kernel) (Nat.le_of_ble_eq_true rfl) ?_
  intro pp ee ss mm bel mth cx C hr hlk
  show V pp l ee { frames := 1, cells := 0, slots := 0, locals := 21 } ss mm ([.ref (adr L 1 k 0), .ref (adr L 1 o 0)]).toArray bel mth cx 3 L (HH L g) 0 0 _ 0 [(0, .ref (adr L 1 k 0)), (1, .ref (adr L 1 o 0))] []
  obtain ⟨hS0, hS1, hS2, hB0, hB1, hB2, hCl, hN, hPl, hPm, hPj, hEc, hSo⟩ := id hwo
  refine v_aload_n (pc := 0) C 0 rfl rfl dX1_copyFrom_0 ?_
  refine v_aload_n (pc := 1) C 1 rfl rfl dX1_copyFrom_1 ?_
  refine gt_1_0 (pc := 2) C ⟨by (first | assumption | omega | (simp [bl, up] <;> omega)), by (first | assumption | omega | (simp [bl, up] <;> omega))⟩ u_6_3 dX1_copyFrom_2 (g 1 o 0 0) (rfl) ?_
  refine pt_1_0 (pc := 5) C ⟨by (first | assumption | omega | (simp [bl, up] <;> omega)), by (first | assumption | omega | (simp [bl, up] <;> omega))⟩ u_6_3 dX1_copyFrom_5 ?_
  refine v_aload_n (pc := 8) C 0 rfl rfl dX1_copyFrom_8 ?_
  refine v_aload_n (pc := 9) C 1 rfl rfl dX1_copyFrom_9 ?_
  refine gt_1_1 (pc := 10) C ⟨by (first | assumption | omega | (simp [bl, up] <;> omega)), by (first | assumption | omega | (simp [bl, up] <;> omega))⟩ u_7_15 dX1_copyFrom_10 (g 1 o 0 1) (by simp [up]) ?_
  refine pt_1_1 (pc := 13) C ⟨by (first | assumption | omega | (simp [bl, up] <;> omega)), by (first | assumption | omega | (simp [bl, up] <;> omega))⟩ u_7_15 dX1_copyFrom_13 ?_
  refine v_aload_n (pc := 16) C 0 rfl rfl dX1_copyFrom_16 ?_
  refine v_aload_n (pc := 17) C 1 rfl rfl dX1_copyFrom_17 ?_
  refine gt_1_2 (pc := 18) C ⟨by (first | assumption | omega | (simp [bl, up] <;> omega)), by (first | assumption | omega | (simp [bl, up] <;> omega))⟩ u_6_2 dX1_copyFrom_18 (g 1 o 0 2) (by simp [up]) ?_
  refine pt_1_2 (pc := 21) C ⟨by (first | assumption | omega | (simp [bl, up] <;> omega)), by (first | assumption | omega | (simp [bl, up] <;> omega))⟩ u_6_2 dX1_copyFrom_21 ?_
  refine v_aload_n (pc := 24) C 0 rfl rfl dX1_copyFrom_24 ?_
  refine gt_1_4 (pc := 25) C ⟨by (first | assumption | omega | (simp [bl, up] <;> omega)), by (first | assumption | omega | (simp [bl, up] <;> omega))⟩ u_2_11 dX1_copyFrom_25 ?_
  refine v_aload_n (pc := 28) C 1 rfl rfl dX1_copyFrom_28 ?_
  refine gt_1_4 (pc := 29) C ⟨by (first | assumption | omega | (simp [bl, up] <;> omega)), by (first | assumption | omega | (simp [bl, up] <;> omega))⟩ u_2_11 dX1_copyFrom_29 ?_
  refine v_callvV (pc := 32) C cw_RX1_51 (rcv_3 ⟨by (first | assumption | omega | (simp [bl, up] <;> omega)), by (first | assumption | omega | (simp [bl, up] <;> omega))⟩) (ct_X0_copyFrom l L (up (up (up g 1 k 0 0 (g 1 o 0 0)) 1 k 0 1 (g 1 o 0 1)) 1 k 0 2 (g 1 o 0 2)) k o (by first | assumption | omega | (simp [bl, up] <;> omega)) (by first | assumption | omega | (simp [bl, up] <;> omega)) (by first | assumption | omega | (simp [bl, up] <;> omega)) (by first | assumption | omega | (simp [bl, up] <;> omega)) (by first | assumption | omega | (simp [bl, up] <;> omega))) ⟨Nat.le_of_ble_eq_true rfl, Nat.le_of_ble_eq_true rfl⟩ rfl (Nat.le_of_ble_eq_true rfl) ⟨Nat.le_of_ble_eq_true rfl, Nat.le_of_ble_eq_true rfl⟩ rfl dX1_copyFrom_32 (fun u9 hP_1 => ?_)
  rw [hP_1]
  clear hP_1 u9
  refine v_st (g2 := cp1 g k o) C (by clear hPj hSo hPm hEc hPl hwo hpk; simp only [up_ff (show (3 : Nat) ≠ 1 by decide)]; funext f' k' j' i'; simp only [cp1, up]; grind (splits := 20)) ?_
  refine v_iconst (pc := 35) C dX1_copyFrom_35 ?_
  refine v_istore_n (pc := 36) C [(2, .int (iI 0)), (0, .ref (adr L 1 k 0)), (1, .ref (adr L 1 o 0))] rfl (by decide) rfl dX1_copyFrom_36 ?_
  refine v_iload_n (pc := 37) C 0 rfl rfl dX1_copyFrom_37 ?_
  refine v_iconst (pc := 38) C dX1_copyFrom_38 ?_
  refine v_icmp_ge (pc := 39) C 60 ⟨by (first | assumption | omega | (simp [bl, up] <;> omega)), by (first | assumption | omega | (simp [bl, up] <;> omega))⟩ ⟨by (first | assumption | omega | (simp [bl, up] <;> omega)), by (first | assumption | omega | (simp [bl, up] <;> omega))⟩ (by decide) dX1_copyFrom_39 (fun h39 => ?_) (fun h39 => ?_)
  · skip
    exfalso; omega
  · skip
    refine v_aload_n (pc := 42) C 1 rfl rfl dX1_copyFrom_42 ?_
    refine gt_1_3 (pc := 43) C ⟨by (first | assumption | omega | (simp [bl, up] <;> omega)), by (first | assumption | omega | (simp [bl, up] <;> omega))⟩ u_2_9 dX1_copyFrom_43 ?_
    refine v_iload_n (pc := 46) C 0 rfl rfl dX1_copyFrom_46 ?_
    refine v_aload_n (pc := 47) C 2 rfl rfl dX1_copyFrom_47 ?_
    refine gt_1_3 (pc := 48) C ⟨by (first | assumption | omega | (simp [bl, up] <;> omega)), by (first | assumption | omega | (simp [bl, up] <;> omega))⟩ u_2_9 dX1_copyFrom_48 ?_
    refine v_iload_n (pc := 51) C 0 rfl rfl dX1_copyFrom_51 ?_
    refine al_2 (pc := 52) C ⟨by (first | assumption | omega | (simp [bl, up] <;> omega)), by (first | assumption | omega | (simp [bl, up] <;> omega))⟩ ⟨by (first | assumption | omega | (simp [bl, up] <;> omega)), by (first | assumption | omega | (simp [bl, up] <;> omega))⟩ dX1_copyFrom_52 (g 2 o 0 0) (by clear hPj hSo hPm hEc hPl hwo hpk; simp only [up, cp1]; grind) ?_
    refine as_2 (pc := 53) C ⟨by (first | assumption | omega | (simp [bl, up] <;> omega)), by (first | assumption | omega | (simp [bl, up] <;> omega))⟩ ⟨by (first | assumption | omega | (simp [bl, up] <;> omega)), by (first | assumption | omega | (simp [bl, up] <;> omega))⟩ dX1_copyFrom_53 ?_
    refine v_iinc (pc := 54) C 0 [(2, .int (iI 1)), (0, .ref (adr L 1 k 0)), (1, .ref (adr L 1 o 0))] rfl (by decide) rfl dX1_copyFrom_54 ?_
    refine v_goto (pc := 57) C 37 (by decide) dX1_copyFrom_57 ?_
    refine v_iload_n (pc := 37) C 0 rfl rfl dX1_copyFrom_37 ?_
    refine v_iconst (pc := 38) C dX1_copyFrom_38 ?_
    refine v_icmp_ge (pc := 39) C 60 ⟨by (first | assumption | omega | (simp [bl, up] <;> omega)), by (first | assumption | omega | (simp [bl, up] <;> omega))⟩ ⟨by (first | assumption | omega | (simp [bl, up] <;> omega)), by (first | assumption | omega | (simp [bl, up] <;> omega))⟩ (by decide) dX1_copyFrom_39 (fun h39 => ?_) (fun h39 => ?_)
    · skip
      exfalso; omega
    · skip
      refine v_aload_n (pc := 42) C 1 rfl rfl dX1_copyFrom_42 ?_
      refine gt_1_3 (pc := 43) C ⟨by (first | assumption | omega | (simp [bl, up] <;> omega)), by (first | assumption | omega | (simp [bl, up] <;> omega))⟩ u_2_9 dX1_copyFrom_43 ?_
      refine v_iload_n (pc := 46) C 0 rfl rfl dX1_copyFrom_46 ?_
      refine v_aload_n (pc := 47) C 2 rfl rfl dX1_copyFrom_47 ?_
      refine gt_1_3 (pc := 48) C ⟨by (first | assumption | omega | (simp [bl, up] <;> omega)), by (first | assumption | omega | (simp [bl, up] <;> omega))⟩ u_2_9 dX1_copyFrom_48 ?_
      refine v_iload_n (pc := 51) C 0 rfl rfl dX1_copyFrom_51 ?_
      refine al_2 (pc := 52) C ⟨by (first | assumption | omega | (simp [bl, up] <;> omega)), by (first | assumption | omega | (simp [bl, up] <;> omega))⟩ ⟨by (first | assumption | omega | (simp [bl, up] <;> omega)), by (first | assumption | omega | (simp [bl, up] <;> omega))⟩ dX1_copyFrom_52 (g 2 o 0 1) (by clear hPj hSo hPm hEc hPl hwo hpk; simp only [up, cp1]; grind) ?_
      refine as_2 (pc := 53) C ⟨by (first | assumption | omega | (simp [bl, up] <;> omega)), by (first | assumption | omega | (simp [bl, up] <;> omega))⟩ ⟨by (first | assumption | omega | (simp [bl, up] <;> omega)), by (first | assumption | omega | (simp [bl, up] <;> omega))⟩ dX1_copyFrom_53 ?_
      refine v_iinc (pc := 54) C 0 [(2, .int (iI 2)), (0, .ref (adr L 1 k 0)), (1, .ref (adr L 1 o 0))] rfl (by decide) rfl dX1_copyFrom_54 ?_
      refine v_goto (pc := 57) C 37 (by decide) dX1_copyFrom_57 ?_
      refine v_iload_n (pc := 37) C 0 rfl rfl dX1_copyFrom_37 ?_
      refine v_iconst (pc := 38) C dX1_copyFrom_38 ?_
      refine v_icmp_ge (pc := 39) C 60 ⟨by (first | assumption | omega | (simp [bl, up] <;> omega)), by (first | assumption | omega | (simp [bl, up] <;> omega))⟩ ⟨by (first | assumption | omega | (simp [bl, up] <;> omega)), by (first | assumption | omega | (simp [bl, up] <;> omega))⟩ (by decide) dX1_copyFrom_39 (fun h39 => ?_) (fun h39 => ?_)
      · skip
        exfalso; omega
      · skip
        refine v_aload_n (pc := 42) C 1 rfl rfl dX1_copyFrom_42 ?_
        refine gt_1_3 (pc := 43) C ⟨by (first | assumption | omega | (simp [bl, up] <;> omega)), by (first | assumption | omega | (simp [bl, up] <;> omega))⟩ u_2_9 dX1_copyFrom_43 ?_
        refine v_iload_n (pc := 46) C 0 rfl rfl dX1_copyFrom_46 ?_
        refine v_aload_n (pc := 47) C 2 rfl rfl dX1_copyFrom_47 ?_
        refine gt_1_3 (pc := 48) C ⟨by (first | assumption | omega | (simp [bl, up] <;> omega)), by (first | assumption | omega | (simp [bl, up] <;> omega))⟩ u_2_9 dX1_copyFrom_48 ?_
        refine v_iload_n (pc := 51) C 0 rfl rfl dX1_copyFrom_51 ?_
        refine al_2 (pc := 52) C ⟨by (first | assumption | omega | (simp [bl, up] <;> omega)), by (first | assumption | omega | (simp [bl, up] <;> omega))⟩ ⟨by (first | assumption | omega | (simp [bl, up] <;> omega)), by (first | assumption | omega | (simp [bl, up] <;> omega))⟩ dX1_copyFrom_52 (g 2 o 0 2) (by clear hPj hSo hPm hEc hPl hwo hpk; simp only [up, cp1]; grind) ?_
        refine as_2 (pc := 53) C ⟨by (first | assumption | omega | (simp [bl, up] <;> omega)), by (first | assumption | omega | (simp [bl, up] <;> omega))⟩ ⟨by (first | assumption | omega | (simp [bl, up] <;> omega)), by (first | assumption | omega | (simp [bl, up] <;> omega))⟩ dX1_copyFrom_53 ?_
        refine v_iinc (pc := 54) C 0 [(2, .int (iI 3)), (0, .ref (adr L 1 k 0)), (1, .ref (adr L 1 o 0))] rfl (by decide) rfl dX1_copyFrom_54 ?_
        refine v_goto (pc := 57) C 37 (by decide) dX1_copyFrom_57 ?_
        refine v_iload_n (pc := 37) C 0 rfl rfl dX1_copyFrom_37 ?_
        refine v_iconst (pc := 38) C dX1_copyFrom_38 ?_
        refine v_icmp_ge (pc := 39) C 60 ⟨by (first | assumption | omega | (simp [bl, up] <;> omega)), by (first | assumption | omega | (simp [bl, up] <;> omega))⟩ ⟨by (first | assumption | omega | (simp [bl, up] <;> omega)), by (first | assumption | omega | (simp [bl, up] <;> omega))⟩ (by decide) dX1_copyFrom_39 (fun h39 => ?_) (fun h39 => ?_)
        · skip
          refine v_st (g2 := cp2 g k o) C (by clear hPj hSo hPm hEc hPl hwo hpk; funext f' k' j' i'; simp only [cp2, up]; grind (splits := 20)) ?_
          refine v_iconst (pc := 60) C dX1_copyFrom_60 ?_
          refine v_istore_n (pc := 61) C [(2, .int (iI 0)), (0, .ref (adr L 1 k 0)), (1, .ref (adr L 1 o 0))] rfl (by decide) rfl dX1_copyFrom_61 ?_
          have lb62 : ∀ (n9 : Nat) (i : Int), (0 ≤ i ∧ i ≤ 4) → (4 - i).toNat < n9 → V pp l ee { frames := 1, cells := 0, slots := 0, locals := 21 } ss mm ([.ref (adr L 1 k 0), .ref (adr L 1 o 0)]).toArray bel mth cx 3 L (HH L (cp3 g k o i)) 0 0 (MQ bel (va_Qv (fun (u9 : St) => u9 = (cpE g k o (g 1 o 0 2).toNat)) (fun u t => HS L u t) (Af L)) ([.ref (adr L 1 k 0), .ref (adr L 1 o 0)]).toArray ss 0 0 (Af L)) 62 [(0, .ref (adr L 1 k 0)), (1, .ref (adr L 1 o 0)), (2, .int (iI i))] [] := by
            intro n9
            induction n9 with
            | zero => intro i hi hm9; exact absurd hm9 (Nat.not_lt_zero _)
            | succ n9 ih9 =>
              intro i hi hm9
              have ih62 := ih9
              refine v_iload_n (pc := 62) C 2 rfl rfl dX1_copyFrom_62 ?_
              refine v_iconst (pc := 63) C dX1_copyFrom_63 ?_
              refine v_icmp_ge (pc := 64) C 88 ⟨by (first | assumption | omega | (simp [bl, up] <;> omega)), by (first | assumption | omega | (simp [bl, up] <;> omega))⟩ ⟨by (first | assumption | omega | (simp [bl, up] <;> omega)), by (first | assumption | omega | (simp [bl, up] <;> omega))⟩ (by decide) dX1_copyFrom_64 (fun h64 => ?_) (fun h64 => ?_)
              · skip
                refine v_st (g2 := cp3 g k o 4) C (by rw [show i = 4 by omega]) ?_
                refine v_iconst (pc := 88) C dX1_copyFrom_88 ?_
                refine v_istore_n (pc := 89) C [(2, .int (iI 0)), (0, .ref (adr L 1 k 0)), (1, .ref (adr L 1 o 0))] rfl (by decide) rfl dX1_copyFrom_89 ?_
                have lb90 : ∀ (n9 : Nat) (i : Int), (0 ≤ i ∧ i ≤ g 1 o 0 2) → (g 1 o 0 2 - i).toNat < n9 → V pp l ee { frames := 1, cells := 0, slots := 0, locals := 21 } ss mm ([.ref (adr L 1 k 0), .ref (adr L 1 o 0)]).toArray bel mth cx 3 L (HH L (cpE g k o i.toNat)) 0 0 (MQ bel (va_Qv (fun (u9 : St) => u9 = (cpE g k o (g 1 o 0 2).toNat)) (fun u t => HS L u t) (Af L)) ([.ref (adr L 1 k 0), .ref (adr L 1 o 0)]).toArray ss 0 0 (Af L)) 90 [(0, .ref (adr L 1 k 0)), (1, .ref (adr L 1 o 0)), (2, .int (iI i))] [] := by
                  intro n9
                  induction n9 with
                  | zero => intro i hi hm9; exact absurd hm9 (Nat.not_lt_zero _)
                  | succ n9 ih9 =>
                    intro i hi hm9
                    have ih90 := ih9
                    refine v_iload_n (pc := 90) C 2 rfl rfl dX1_copyFrom_90 ?_
                    refine v_aload_n (pc := 91) C 0 rfl rfl dX1_copyFrom_91 ?_
                    refine gt_1_2 (pc := 92) C ⟨by (first | assumption | omega | (simp [bl, up] <;> omega)), by (first | assumption | omega | (simp [bl, up] <;> omega))⟩ u_6_2 dX1_copyFrom_92 (g 1 o 0 2) (cpE_1 g k o _) ?_
                    refine v_icmp_ge (pc := 95) C 119 ⟨by (first | assumption | omega | (simp [bl, up] <;> omega)), by (first | assumption | omega | (simp [bl, up] <;> omega))⟩ ⟨by (first | assumption | omega | (simp [bl, up] <;> omega)), by (first | assumption | omega | (simp [bl, up] <;> omega))⟩ (by decide) dX1_copyFrom_95 (fun h95 => ?_) (fun h95 => ?_)
                    · skip
                      exact v_vret (pc := 119) C hr hlk (by rw [show i = g 1 o 0 2 by omega]) dX1_copyFrom_119
                    · skip
                      have hq1 := hpk i (by omega) (by omega)
                      have hq2 := hPm i (by omega) (by omega)
                      refine v_aload_n (pc := 98) C 0 rfl rfl dX1_copyFrom_98 ?_
                      refine gt_1_6 (pc := 99) C ⟨by (first | assumption | omega | (simp [bl, up] <;> omega)), by (first | assumption | omega | (simp [bl, up] <;> omega))⟩ u_2_15 dX1_copyFrom_99 ?_
                      refine v_iload_n (pc := 102) C 2 rfl rfl dX1_copyFrom_102 ?_
                      refine al_5 (pc := 103) C ⟨by (first | assumption | omega | (simp [bl, up] <;> omega)), by (first | assumption | omega | (simp [bl, up] <;> omega))⟩ ⟨by (first | assumption | omega | (simp [bl, up] <;> omega)), by (first | assumption | omega | (simp [bl, up] <;> omega))⟩ dX1_copyFrom_103 (g 5 k 0 i) (by rw [cpE_5]) ?_
                      refine v_aload_n (pc := 104) C 1 rfl rfl dX1_copyFrom_104 ?_
                      refine gt_1_6 (pc := 105) C ⟨by (first | assumption | omega | (simp [bl, up] <;> omega)), by (first | assumption | omega | (simp [bl, up] <;> omega))⟩ u_2_15 dX1_copyFrom_105 ?_
                      refine v_iload_n (pc := 108) C 2 rfl rfl dX1_copyFrom_108 ?_
                      refine al_5 (pc := 109) C ⟨by (first | assumption | omega | (simp [bl, up] <;> omega)), by (first | assumption | omega | (simp [bl, up] <;> omega))⟩ ⟨by (first | assumption | omega | (simp [bl, up] <;> omega)), by (first | assumption | omega | (simp [bl, up] <;> omega))⟩ dX1_copyFrom_109 (g 5 o 0 i) (by rw [cpE_5]) ?_
                      refine v_callvV (pc := 110) C cw_RX1_58 (rcv_7 ⟨⟨by (first | assumption | omega | (simp [bl, up] <;> omega)), by (first | assumption | omega | (simp [bl, up] <;> omega))⟩, ⟨by (first | assumption | omega | (simp [bl, up] <;> omega)), by (first | assumption | omega | (simp [bl, up] <;> omega))⟩⟩) (ct_X2_copyFrom l L (cpE g k o i.toNat) k (g 5 k 0 i) o (g 5 o 0 i) (by first | assumption | omega | (simp [bl, up] <;> omega)) (by first | assumption | omega | (simp [bl, up] <;> omega)) (by first | assumption | omega | (simp [bl, up] <;> omega)) (by first | assumption | omega | (simp [bl, up] <;> omega))) ⟨Nat.le_of_ble_eq_true rfl, Nat.le_of_ble_eq_true rfl⟩ rfl (Nat.le_of_ble_eq_true rfl) ⟨Nat.le_of_ble_eq_true rfl, Nat.le_of_ble_eq_true rfl⟩ rfl dX1_copyFrom_110 (fun u9 hP_2 => ?_)
                      rw [hP_2]
                      clear hP_2 u9
                      refine v_iinc (pc := 113) C 2 [(2, .int (iI (i + 1))), (0, .ref (adr L 1 k 0)), (1, .ref (adr L 1 o 0))] rfl (by decide) rfl dX1_copyFrom_113 ?_
                      refine v_goto (pc := 116) C 90 (by decide) dX1_copyFrom_116 ?_
                      refine v_lsub [1, 2, 0] rfl ?_
                      refine v_st (g2 := cpE g k o (i + 1).toNat) C (by rw [cpE_s _ _ _ _ hi.1]; unfold cp7; rfl) ?_
                      exact ih90 (i + 1) (by omega) (by omega)
                refine v_lsub [1, 2, 0] rfl ?_
                refine v_st (g2 := cpE g k o (0 : Int).toNat) C (by rfl) ?_
                exact lb90 _ 0 (by omega) (Nat.lt_succ_self _)
              · skip
                refine v_aload_n (pc := 67) C 0 rfl rfl dX1_copyFrom_67 ?_
                refine gt_1_5 (pc := 68) C ⟨by (first | assumption | omega | (simp [bl, up] <;> omega)), by (first | assumption | omega | (simp [bl, up] <;> omega))⟩ u_2_13 dX1_copyFrom_68 ?_
                refine v_iload_n (pc := 71) C 2 rfl rfl dX1_copyFrom_71 ?_
                refine al_4 (pc := 72) C ⟨by (first | assumption | omega | (simp [bl, up] <;> omega)), by (first | assumption | omega | (simp [bl, up] <;> omega))⟩ ⟨by (first | assumption | omega | (simp [bl, up] <;> omega)), by (first | assumption | omega | (simp [bl, up] <;> omega))⟩ dX1_copyFrom_72 ?_
                refine v_aload_n (pc := 73) C 1 rfl rfl dX1_copyFrom_73 ?_
                refine gt_1_5 (pc := 74) C ⟨by (first | assumption | omega | (simp [bl, up] <;> omega)), by (first | assumption | omega | (simp [bl, up] <;> omega))⟩ u_2_13 dX1_copyFrom_74 ?_
                refine v_iload_n (pc := 77) C 2 rfl rfl dX1_copyFrom_77 ?_
                refine al_4 (pc := 78) C ⟨by (first | assumption | omega | (simp [bl, up] <;> omega)), by (first | assumption | omega | (simp [bl, up] <;> omega))⟩ ⟨by (first | assumption | omega | (simp [bl, up] <;> omega)), by (first | assumption | omega | (simp [bl, up] <;> omega))⟩ dX1_copyFrom_78 ?_
                refine v_callvV (pc := 79) C cw_RX1_55 (rcv_6 ⟨⟨by (first | assumption | omega | (simp [bl, up] <;> omega)), by (first | assumption | omega | (simp [bl, up] <;> omega))⟩, ⟨by (first | assumption | omega | (simp [bl, up] <;> omega)), by (first | assumption | omega | (simp [bl, up] <;> omega))⟩⟩) (ct_X4_copyFrom l L (cp3 g k o i) k i o i (by first | assumption | omega | (simp [bl, up] <;> omega)) (by first | assumption | omega | (simp [bl, up] <;> omega)) (by first | assumption | omega | (simp [bl, up] <;> omega)) (by first | assumption | omega | (simp [bl, up] <;> omega))) ⟨Nat.le_of_ble_eq_true rfl, Nat.le_of_ble_eq_true rfl⟩ rfl (Nat.le_of_ble_eq_true rfl) ⟨Nat.le_of_ble_eq_true rfl, Nat.le_of_ble_eq_true rfl⟩ rfl dX1_copyFrom_79 (fun u9 hP_3 => ?_)
                rw [hP_3]
                clear hP_3 u9
                refine v_iinc (pc := 82) C 2 [(2, .int (iI (i + 1))), (0, .ref (adr L 1 k 0)), (1, .ref (adr L 1 o 0))] rfl (by decide) rfl dX1_copyFrom_82 ?_
                refine v_goto (pc := 85) C 62 (by decide) dX1_copyFrom_85 ?_
                refine v_lsub [1, 2, 0] rfl ?_
                refine v_st (g2 := cp3 g k o (i + 1)) C (by simp only [cp3_o _ _ _ _ hko]; exact cp3_s g k o i hko (by omega)) ?_
                exact ih62 (i + 1) (by omega) (by omega)
          refine v_lsub [1, 2, 0] rfl ?_
          refine v_st (g2 := cp3 g k o 0) C (by exact (cp3_0 g k o).symm) ?_
          exact lb62 _ 0 (by omega) (Nat.lt_succ_self _)
        · skip
          exfalso; omega
