/-! what keeps a canyon whole -/
theorem up_ff {g : St} {f f' : Nat} {k j i v : Int} (h : f' ≠ f) : up g f k j i v f' = g f' := by
  funext k' j' i'; exact up_f h
theorem wf_up6 {g : St} {k d p q v : Int} (hq : q ≠ 0) (h : wf g k d) : wf (up g 6 k p q v) k d := by
  have h2 : ∀ k' j, up g 6 k p q v 6 k' j 0 = g 6 k' j 0 := fun _ _ => up_i (Ne.symm hq)
  unfold wf okE at *
  simp only [up_ff (show (1 : Nat) ≠ 6 by decide), up_ff (show (2 : Nat) ≠ 6 by decide), up_ff (show (3 : Nat) ≠ 6 by decide), up_ff (show (5 : Nat) ≠ 6 by decide), up_ff (show (7 : Nat) ≠ 6 by decide), h2]
  exact h
theorem wf_up3 {g : St} {k d s r : Int} (hs : 1 ≤ s ∧ s ≤ 9) (hr : r = 0 ∨ r = 1) (h : wf g k d) : wf (up (up g 3 k 0 1 s) 3 k 0 2 r) k d := by
  have h0 : up (up g 3 k 0 1 s) 3 k 0 2 r 3 k 0 0 = g 3 k 0 0 := by simp [up]
  have h1 : up (up g 3 k 0 1 s) 3 k 0 2 r 3 k 0 1 = s := by simp [up]
  have h2 : up (up g 3 k 0 1 s) 3 k 0 2 r 3 k 0 2 = r := by simp [up]
  unfold wf okE at *
  simp only [h0, h1, h2, up_ff (show (1 : Nat) ≠ 3 by decide), up_ff (show (2 : Nat) ≠ 3 by decide), up_ff (show (6 : Nat) ≠ 3 by decide), up_ff (show (5 : Nat) ≠ 3 by decide), up_ff (show (7 : Nat) ≠ 3 by decide)]
  obtain ⟨a1, a2, a3, a4, a5, a6, a7⟩ := h
  exact ⟨a1, a2, a3, a4, hs, hr, a7⟩
theorem wf_refused {g : St} {k d v : Int} (h : wf g k d) : wf (up g 1 k 0 1 v) k d := by
  have h0 : up g 1 k 0 1 v 1 k 0 0 = g 1 k 0 0 := by simp [up]
  have h1 : up g 1 k 0 1 v 1 k 0 2 = g 1 k 0 2 := by simp [up]
  unfold wf okE at *
  simp only [h0, h1, up_ff (show (3 : Nat) ≠ 1 by decide), up_ff (show (2 : Nat) ≠ 1 by decide), up_ff (show (6 : Nat) ≠ 1 by decide), up_ff (show (5 : Nat) ≠ 1 by decide), up_ff (show (7 : Nat) ≠ 1 by decide)]
  exact h
theorem wf_place {g : St} {k d p v : Int} (hv : 0 ≤ v ∧ v ≤ g 2 k 0 0) (h : wf g k d) : wf (up g 6 k p 0 v) k d := by
  unfold wf okE at *
  simp only [up_ff (show (1 : Nat) ≠ 6 by decide), up_ff (show (2 : Nat) ≠ 6 by decide), up_ff (show (3 : Nat) ≠ 6 by decide), up_ff (show (5 : Nat) ≠ 6 by decide), up_ff (show (7 : Nat) ≠ 6 by decide)]
  obtain ⟨a1, a2, a3, a4, a5, a6, a7, a8, a9, a10⟩ := h
  refine ⟨a1, a2, a3, a4, a5, a6, a7, a8, fun j h0 h4 => ?_, a10⟩
  by_cases hj : j = p
  · subst hj; rw [up_s]; exact hv
  · rw [up_j hj]; exact a9 j h0 h4
theorem ad5 (g : St) (k p w y a i : Int) : adG g k p w y a 5 k 0 i = if i = a then g 5 k 0 (g 1 k 0 2) else if a < i ∧ i ≤ g 1 k 0 2 then g 5 k 0 (i - 1) else g 5 k 0 i := by
  simp only [adG, up, shG, ecG]; grind
theorem ad7 (g : St) (k p w y a c q : Int) : adG g k p w y a 7 k c q = if c = g 5 k 0 (g 1 k 0 2) then (if q = 0 then p else if q = 1 then g 6 k p 0 else if q = 2 then w else if q = 4 then y else if q = 3 then g 1 k 0 0 + eT g k (g 6 k p 0) y else g 7 k c q) else g 7 k c q := by
  simp only [adG, up, shG, ecG]; grind
theorem ad1 (g : St) (k p w y a i : Int) : adG g k p w y a 1 k 0 i = if i = 2 then g 1 k 0 2 + 1 else g 1 k 0 i := by
  simp only [adG, up, shG, ecG]; grind
theorem adf (g : St) (k p w y a : Int) {f : Nat} (h1 : f ≠ 1) (h5 : f ≠ 5) (h7 : f ≠ 7) : adG g k p w y a f = g f := by
  funext k' j i
  simp only [adG, up, shG, ecG]; grind
theorem ad_due {g : St} {k p y a : Int} (h : wf g k 1) (hc : adC g k p y a) {r : Int} (h0 : 0 ≤ r) (h1 : r < a) : eF g k r 3 ≤ g 1 k 0 0 + eT g k (g 6 k p 0) y := by
  obtain ⟨hS0, hS1, hS2, hB0, hB1, hB2, hCl, hN, hPl, hPm, hPj, hEc, hSo⟩ := h
  exact Int.le_trans (hSo r (a - 1) h0 (by omega) (by have := hc.1; omega)) (hc.2.1 (by omega))
theorem adG_wf {g : St} {k p w y a : Int} (h : wf g k 1) (hp : 0 ≤ p ∧ p < 4) (hw : 0 ≤ w ∧ w ≤ 9) (hy : 0 ≤ y ∧ y ≤ 1) (hn : g 1 k 0 2 < 24) (hc : adC g k p y a) : wf (adG g k p w y a) k 1 := by
  have hdu := fun {r : Int} => ad_due (r := r) h hc
  obtain ⟨hS0, hS1, hS2, hB0, hB1, hB2, hCl, hN, hPl, hPm, hPj, hEc, hSo⟩ := id h
  have hpl := hPl p hp.1 hp.2
  have hty := eT_in (w := y) h hpl
  have hce := hPm (g 1 k 0 2) (by omega) hn
  obtain ⟨ha, -, hgt⟩ := id hc
  have hne : ∀ r, 0 ≤ r → r < g 1 k 0 2 → g 5 k 0 r ≠ g 5 k 0 (g 1 k 0 2) := fun r h0 h1 he => by
    have := hPj r (g 1 k 0 2) h0 (by omega) (by omega) hn he; omega
  have hold : ∀ r q, 0 ≤ r → r < g 1 k 0 2 → adG g k p w y a 7 k (g 5 k 0 r) q = g 7 k (g 5 k 0 r) q := fun r q h0 h1 => by
    rw [ad7, if_neg (hne r h0 h1)]
  have hnew : adG g k p w y a 7 k (g 5 k 0 (g 1 k 0 2)) 3 = g 1 k 0 0 + eT g k (g 6 k p 0) y := by rw [ad7, if_pos rfl]; simp
  have e2 := adf g k p w y a (f := 2) (by decide) (by decide) (by decide)
  have e3 := adf g k p w y a (f := 3) (by decide) (by decide) (by decide)
  have e6 := adf g k p w y a (f := 6) (by decide) (by decide) (by decide)
  have e10 : adG g k p w y a 1 k 0 0 = g 1 k 0 0 := by rw [ad1, if_neg (by decide)]
  have e12 : adG g k p w y a 1 k 0 2 = g 1 k 0 2 + 1 := by rw [ad1, if_pos rfl]
  have hcase : ∀ i, 0 ≤ i → i < g 1 k 0 2 + 1 → (i = a ∧ adG g k p w y a 5 k 0 i = g 5 k 0 (g 1 k 0 2)) ∨ (i < a ∧ adG g k p w y a 5 k 0 i = g 5 k 0 i) ∨ (a < i ∧ adG g k p w y a 5 k 0 i = g 5 k 0 (i - 1)) := fun i h0 h1 => by
    rw [ad5]; by_cases hi : i = a
    · rw [if_pos hi]; exact Or.inl ⟨hi, rfl⟩
    · rw [if_neg hi]; by_cases h2 : a < i ∧ i ≤ g 1 k 0 2
      · rw [if_pos h2]; exact Or.inr (Or.inr ⟨h2.1, rfl⟩)
      · rw [if_neg h2]; exact Or.inr (Or.inl ⟨by omega, rfl⟩)
  unfold wf
  rw [e2, e3, e6, e10, e12]
  refine ⟨hS0, hS1, hS2, hB0, hB1, hB2, hCl, by omega, hPl, fun i h0 h1 => ?_, fun i j hi0 hi1 hj0 hj1 he => ?_, fun i h0 h1 => ?_, fun i j h0 hij h1 => ?_⟩
  · rw [ad5]; split
    · exact hce
    · split
      · exact hPm _ (by omega) (by omega)
      · exact hPm _ h0 h1
  · rw [ad5, ad5] at he
    have p1 := fun x y q1 q2 q3 q4 => hPj x y q1 q2 q3 q4
    by_cases i1 : i = a
    · rw [if_pos i1] at he
      by_cases j1 : j = a
      · omega
      · rw [if_neg j1] at he
        by_cases j2 : a < j ∧ j ≤ g 1 k 0 2
        · rw [if_pos j2] at he; have := hPj _ _ (by omega) hn (by omega) (by omega) he; omega
        · rw [if_neg j2] at he; have := hPj _ _ (by omega) hn hj0 hj1 he; omega
    · rw [if_neg i1] at he
      by_cases i2 : a < i ∧ i ≤ g 1 k 0 2
      · rw [if_pos i2] at he
        by_cases j1 : j = a
        · rw [if_pos j1] at he; have := hPj _ _ (by omega) (by omega) (by omega) hn he; omega
        · rw [if_neg j1] at he
          by_cases j2 : a < j ∧ j ≤ g 1 k 0 2
          · rw [if_pos j2] at he; have := hPj _ _ (by omega) (by omega) (by omega) (by omega) he; omega
          · rw [if_neg j2] at he; have := hPj _ _ (by omega) (by omega) hj0 hj1 he; omega
      · rw [if_neg i2] at he
        by_cases j1 : j = a
        · rw [if_pos j1] at he; have := hPj _ _ hi0 hi1 (by omega) hn he; omega
        · rw [if_neg j1] at he
          by_cases j2 : a < j ∧ j ≤ g 1 k 0 2
          · rw [if_pos j2] at he; have := hPj _ _ hi0 hi1 (by omega) (by omega) he; omega
          · rw [if_neg j2] at he; exact hPj _ _ hi0 hi1 hj0 hj1 he
  · rcases hcase i h0 h1 with ⟨h2, h3⟩ | ⟨h2, h3⟩ | ⟨h2, h3⟩
    · rw [h3]; unfold okE; rw [e2, e10, ad7, ad7, ad7, ad7, ad7]
      simp only [if_true]
      refine ⟨by simpa using hp, by simpa using hpl, by simpa using hw, by simp; omega, by simp; omega⟩
    · rw [h3]; have := hEc i h0 (by omega); unfold okE at *; rw [e2, e10, hold _ _ h0 (by omega), hold _ _ h0 (by omega), hold _ _ h0 (by omega), hold _ _ h0 (by omega), hold _ _ h0 (by omega)]; exact this
    · rw [h3]; have := hEc (i - 1) (by omega) (by omega); unfold okE at *; rw [e2, e10, hold (i - 1) _ (by omega) (by omega), hold (i - 1) _ (by omega) (by omega), hold (i - 1) _ (by omega) (by omega), hold (i - 1) _ (by omega) (by omega), hold (i - 1) _ (by omega) (by omega)]; exact this
  · rcases hcase i h0 (by omega) with ⟨h2, h3⟩ | ⟨h2, h3⟩ | ⟨h2, h3⟩ <;> rcases hcase j (by omega) h1 with ⟨h4, h5⟩ | ⟨h4, h5⟩ | ⟨h4, h5⟩ <;> rw [h3, h5]
    · exact Int.le_refl _
    · omega
    · rw [hnew, hold (j - 1) _ (by omega) (by omega)]; have := hgt (j - 1) (by omega) (by omega); unfold eF at this; omega
    · rw [hnew, hold i _ h0 (by omega)]; have := hdu h0 h2; unfold eF at this; omega
    · rw [hold i _ h0 (by omega), hold j _ (by omega) (by omega)]; exact hSo i j h0 hij (by omega)
    · rw [hold i _ h0 (by omega), hold (j - 1) _ (by omega) (by omega)]; exact hSo i (j - 1) h0 (by omega) (by omega)
    · omega
    · omega
    · rw [hold (i - 1) _ (by omega) (by omega), hold (j - 1) _ (by omega) (by omega)]; exact hSo (i - 1) (j - 1) (by omega) (by omega) (by omega)
/-- a turn's beginning: the clock, the ball -/
def tbG (g : St) (k : Int) : St := bl (up g 1 k 0 0 (g 1 k 0 0 + 1)) k (bwalk (g 2 k 0 0) (g 3 k 0 1).toNat (g 3 k 0 0, g 3 k 0 2)).1 (bwalk (g 2 k 0 0) (g 3 k 0 1).toNat (g 3 k 0 0, g 3 k 0 2)).2
theorem tbG_f (g : St) (k : Int) {f : Nat} (h1 : f ≠ 1) (h3 : f ≠ 3) : tbG g k f = g f := by
  funext k' j i; simp only [tbG, bl, up]; grind
theorem tbG_0 (g : St) (k : Int) : tbG g k 1 k 0 0 = g 1 k 0 0 + 1 := by simp only [tbG, bl, up]; grind
theorem tbG_2 (g : St) (k : Int) : tbG g k 1 k 0 2 = g 1 k 0 2 := by simp only [tbG, bl, up]; grind
theorem tbG_wf {g : St} {k : Int} (h : wf g k 1) (hc : g 1 k 0 0 < 100000) : wf (tbG g k) k 0 := by
  obtain ⟨hS0, hS1, hS2, hB0, hB1, hB2, hCl, hN, hPl, hPm, hPj, hEc, hSo⟩ := h
  have q := bwalk_in (last := g 2 k 0 0) (by omega) (q := (g 3 k 0 0, g 3 k 0 2)) hB0 hB2 (g 3 k 0 1).toNat
  have e30 : tbG g k 3 k 0 0 = (bwalk (g 2 k 0 0) (g 3 k 0 1).toNat (g 3 k 0 0, g 3 k 0 2)).1 := by simp only [tbG, bl, up]; grind
  have e31 : tbG g k 3 k 0 1 = g 3 k 0 1 := by simp only [tbG, bl, up]; grind
  have e32 : tbG g k 3 k 0 2 = (bwalk (g 2 k 0 0) (g 3 k 0 1).toNat (g 3 k 0 0, g 3 k 0 2)).2 := by simp only [tbG, bl, up]; grind
  unfold wf okE
  rw [tbG_f g k (f := 2) (by decide) (by decide), tbG_f g k (f := 5) (by decide) (by decide), tbG_f g k (f := 6) (by decide) (by decide), tbG_f g k (f := 7) (by decide) (by decide), tbG_0, tbG_2, e30, e31, e32]
  refine ⟨hS0, hS1, hS2, q.1, hB1, q.2, by omega, hN, hPl, hPm, hPj, fun i h0 h1 => ?_, hSo⟩
  have := hEc i h0 h1
  unfold okE at this; omega
theorem fwS_in {s w : Int} (h : 1 ≤ s ∧ s ≤ 9) : 1 ≤ fwS s w ∧ fwS s w ≤ 9 := by unfold fwS; (repeat' split) <;> omega
theorem fwR_in {r w : Int} (h : r = 0 ∨ r = 1) : fwR r w = 0 ∨ fwR r w = 1 := by unfold fwR; split <;> omega
theorem icG_f (g : St) (k r : Int) {f : Nat} (h3 : f ≠ 3) (h6 : f ≠ 6) : icG g k r f = g f := by
  unfold icG
  (repeat' split) <;> simp only [up_ff h3, up_ff h6]
theorem icG_0 (g : St) (k r : Int) : icG g k r 3 k 0 0 = g 3 k 0 0 := by
  unfold icG
  (repeat' split) <;> simp [up]
theorem icG_p (g : St) (k r j : Int) : icG g k r 6 k j 0 = g 6 k j 0 := by
  unfold icG
  (repeat' split) <;> simp [up]
theorem icG_wf {g : St} {k d r : Int} (h : wf g k d) : wf (icG g k r) k d := by
  obtain ⟨hS0, hS1, hS2, hB0, hB1, hB2, -⟩ := id h
  unfold icG
  split
  · exact wf_up6 (by decide) h
  · split
    · exact wf_up6 (by decide) h
    · split
      · exact wf_up6 (by decide) h
      · exact wf_up3 (fwS_in hB1) (fwR_in hB2) (wf_up6 (by decide) (wf_up6 (by decide) h))
/-- the n first echoes come back -/
def caN (g : St) (k : Int) : Nat → St × Int
  | 0 => (g, 0)
  | n + 1 => (icG (caN g k n).1 k n, (caN g k n).2 + icR (caN g k n).1 k n)
theorem caN_f (g : St) (k : Int) {f : Nat} (h3 : f ≠ 3) (h6 : f ≠ 6) : ∀ n, (caN g k n).1 f = g f
  | 0 => rfl
  | n + 1 => by rw [caN]; exact (icG_f _ _ _ h3 h6).trans (caN_f g k h3 h6 n)
theorem caN_wf {g : St} {k d : Int} (h : wf g k d) : ∀ n, wf (caN g k n).1 k d
  | 0 => h
  | n + 1 => icG_wf (caN_wf h n)
theorem caN_s {g : St} {k i : Int} (h : 0 ≤ i) : caN g k (i + 1).toNat = (icG (caN g k i.toNat).1 k i, (caN g k i.toNat).2 + icR (caN g k i.toNat).1 k i) := by
  rw [show (i + 1).toNat = i.toNat + 1 by omega, caN, show ((i.toNat : Nat) : Int) = i by omega]
/-- a turn -/
def tr (g u : St) (k z : Int) : Prop := ∃ b, (0 ≤ b ∧ b ≤ g 1 k 0 2) ∧ (∀ i, 0 ≤ i → i < b → eF g k i 3 ≤ g 1 k 0 0 + 1) ∧ (b < g 1 k 0 2 → g 1 k 0 0 + 1 < eF g k b 3) ∧ z = (caN (tbG g k) k b.toNat).2 ∧ drp (caN (tbG g k) k b.toNat).1 u k b
theorem tr_wf {g u : St} {k z : Int} (h : wf g k 1) (hc : g 1 k 0 0 < 100000) (ht : tr g u k z) : wf u k 1 ∧ u 1 k 0 0 = g 1 k 0 0 + 1 := by
  obtain ⟨b, hb, hlo, hhi, -, v, ⟨d1, d2, d3, d4, d5⟩, rfl⟩ := ht
  have hw := caN_wf (tbG_wf h hc) b.toNat
  have c1 := caN_f (tbG g k) k (f := 1) (by decide) (by decide) b.toNat
  have c5 := caN_f (tbG g k) k (f := 5) (by decide) (by decide) b.toNat
  have c7 := caN_f (tbG g k) k (f := 7) (by decide) (by decide) b.toNat
  have t5 := tbG_f g k (f := 5) (by decide) (by decide)
  have t7 := tbG_f g k (f := 7) (by decide) (by decide)
  obtain ⟨hS0, hS1, hS2, hB0, hB1, hB2, hCl, hN, hPl, hPm, hPj, hEc, hSo⟩ := hw
  obtain ⟨-, -, -, -, -, -, -, -, -, -, -, hEg, hSg⟩ := id h
  have v2 : ∀ i, v 2 k 0 i = (caN (tbG g k) k b.toNat).1 2 k 0 i := fun i => d1 2 k 0 i (by omega)
  have v3 : ∀ i, v 3 k 0 i = (caN (tbG g k) k b.toNat).1 3 k 0 i := fun i => d1 3 k 0 i (by omega)
  have v1 : ∀ i, v 1 k 0 i = (caN (tbG g k) k b.toNat).1 1 k 0 i := fun i => d1 1 k 0 i (by omega)
  have v6 : ∀ j i, v 6 k j i = (caN (tbG g k) k b.toNat).1 6 k j i := fun j i => d1 6 k j i (by omega)
  have v7 : ∀ j i, v 7 k j i = (caN (tbG g k) k b.toNat).1 7 k j i := fun j i => d1 7 k j i (by omega)
  rw [c1, tbG_2] at hN hEc hSo d2
  have q0 : up v 1 k 0 2 ((caN (tbG g k) k b.toNat).1 1 k 0 2 - b) 1 k 0 0 = g 1 k 0 0 + 1 := by rw [up_i (by decide), v1, c1, tbG_0]
  have q2 : up v 1 k 0 2 ((caN (tbG g k) k b.toNat).1 1 k 0 2 - b) 1 k 0 2 = g 1 k 0 2 - b := by rw [up_s, c1, tbG_2]
  refine ⟨?_, q0⟩
  unfold wf okE
  rw [q0, q2]
  simp only [up_ff (show (2 : Nat) ≠ 1 by decide), up_ff (show (3 : Nat) ≠ 1 by decide), up_ff (show (5 : Nat) ≠ 1 by decide), up_ff (show (6 : Nat) ≠ 1 by decide), up_ff (show (7 : Nat) ≠ 1 by decide), v2, v3, v6, v7]
  have hclk := h.2.2.2.2.2.2.1
  have hold : ∀ r, 0 ≤ r → r < g 1 k 0 2 - b → v 5 k 0 r = g 5 k 0 (r + b) := fun r h0 h1 => by rw [d2 r h0 h1, c5, t5]
  refine ⟨hS0, hS1, hS2, hB0, hB1, hB2, by omega, by omega, hPl, d4, d5, fun i h0 h1 => ?_, fun i j h0 hij h1 => ?_⟩
  · rw [hold i h0 h1]
    have a1 := hEc (i + b) (by omega) (by omega)
    unfold okE at a1
    rw [c5, t5, c1, tbG_0] at a1
    have a2 := hSg b (i + b) hb.1 (by omega) (by omega)
    have a3 := hhi (by omega)
    unfold eF at a3
    rw [c7, t7] at a1 ⊢
    omega
  · rw [hold i h0 (by omega), hold j (by omega) h1, c7, t7]
    exact hSg (i + b) (j + b) (by omega) (by omega) (by omega)
/-- so many turns -/
def trs (k : Int) : Nat → St → St → Int → Prop
  | 0, g, u, z => u = g ∧ z = 0
  | n + 1, g, u, z => ∃ v y x, trs k n g v y ∧ tr v u k x ∧ z = y + x

