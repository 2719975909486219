/-! class and reference: furthest place, quiet, ball -/
theorem mx_l {α : Type} {f : Int → Int} {F : Nat → α} {Q : α → Int} (hf : ∀ i : Nat, f i = Q (F i)) {n : Nat} {b v : Int} : mxN f n b ≤ v ↔ b ≤ v ∧ ∀ x ∈ (List.range n).map F, Q x ≤ v := by
  rw [mxN_le]
  constructor
  · intro ⟨h1, h2⟩
    refine ⟨h1, fun x hx => ?_⟩
    obtain ⟨i, hi, rfl⟩ := List.mem_map.mp hx
    have := List.mem_range.mp hi
    rw [← hf]; exact h2 i (by omega) (by omega)
  · intro ⟨h1, h2⟩
    refine ⟨h1, fun i h0 hi => ?_⟩
    have := h2 (F i.toNat) (List.mem_map.mpr ⟨i.toNat, List.mem_range.mpr (by omega), rfl⟩)
    rw [← hf, show ((i.toNat : Nat) : Int) = i by omega] at this
    exact this
theorem eq_of_le {a b : Int} (h : ∀ v, a ≤ v ↔ b ≤ v) : a = b := Int.le_antisymm ((h b).mpr (Int.le_refl b)) ((h a).mp (Int.le_refl a))
theorem fur_tie {g m : St} (hR : tie g 0 m) : fur g 0 = furM m := by
  have e0 := fun p a b => hR.2.2.2.1 p 0 a b (by decide) (by decide)
  have r4 := hR.2.1.2.1
  have eb : mxN (fun j => g 6 0 j 0) 4 (g 3 0 0 0) = mxN (fun p => m 15 0 0 (10 + 6 * p + 0)) 4 (m 15 0 0 4) := by
    refine eq_of_le (fun v => ?_)
    rw [mxN_le, mxN_le, r4]
    exact and_congr_right (fun _ => ⟨fun h i a b => by rw [← e0 i a (by omega)]; exact h i a b, fun h i a b => by rw [e0 i a (by omega)]; exact h i a b⟩)
  refine eq_of_le (fun v => ?_)
  unfold fur furM
  rw [eb]
  generalize mxN (fun p => m 15 0 0 (10 + 6 * p + 0)) 4 (m 15 0 0 4) = B
  rw [mx_l (F := fun i : Nat => ev g 0 i) (Q := fun x => x.2.1) (fun i => rfl), mx_l (F := fun i : Nat => mev m i) (Q := fun x => x.2.1) (fun i => rfl)]
  exact and_congr_right (fun _ => ⟨fun h x hx => h x (hR.2.2.2.2.mem_iff.mpr hx), fun h x hx => h x (hR.2.2.2.2.mem_iff.mp hx)⟩)
theorem qu_tie {g m : St} (hw : wf g 0 1) (hR : tie g 0 m) : cqu g = mQu m - m 15 0 0 3 := by
  have r3 := hR.2.1.1
  obtain ⟨hS0, hS1, hS2, hB0, hB1, hB2, hCl, hN, hPl, hPm, hPj, hEc, hSo⟩ := hw
  have key : cqu g + g 1 0 0 0 = mQu m := by
    refine eq_of_le (fun v => ?_)
    unfold mQu
    rw [mx_l (F := fun i : Nat => mev m i) (Q := fun x => x.2.2.2.1) (fun i => rfl), ← r3]
    have hm : (∀ x ∈ (List.range (m 15 0 0 9).toNat).map (fun i : Nat => mev m i), x.2.2.2.1 ≤ v) ↔ ∀ x ∈ els g 0, x.2.2.2.1 ≤ v := ⟨fun h x hx => h x (hR.2.2.2.2.mem_iff.mp hx), fun h x hx => h x (hR.2.2.2.2.mem_iff.mpr hx)⟩
    rw [hm]
    unfold cqu
    by_cases h : 0 < g 1 0 0 2
    · rw [if_pos h]
      have hl := hEc (g 1 0 0 2 - 1) (by omega) (by omega)
      unfold okE at hl
      constructor
      · intro hv
        refine ⟨by unfold eF at hv; omega, fun x hx => ?_⟩
        obtain ⟨i, hi, rfl⟩ := els_mem hx
        have s := hSo i (g 1 0 0 2 - 1) (by omega) (by omega) (by omega)
        show eF g 0 i 3 ≤ v
        unfold eF at *; omega
      · intro ⟨_, hv⟩
        have := hv (ev g 0 ((g 1 0 0 2 - 1).toNat : Nat)) (List.mem_map.mpr ⟨(g 1 0 0 2 - 1).toNat, List.mem_range.mpr (by omega), rfl⟩)
        have e : ((((g 1 0 0 2 - 1).toNat : Nat)) : Int) = g 1 0 0 2 - 1 := by omega
        rw [e] at this
        have h2 : eF g 0 (g 1 0 0 2 - 1) 3 ≤ v := this
        omega
    · rw [if_neg h]
      constructor
      · intro hv
        refine ⟨by omega, fun x hx => ?_⟩
        obtain ⟨i, hi, -⟩ := els_mem hx
        omega
      · intro ⟨hv, _⟩; omega
  omega
theorem bn_tie {g m : St} {t w : Int} (hR : tie g 0 m) (hw : 0 ≤ w ∧ w ≤ 2) : bnN g t w = mbA m t w := by
  obtain ⟨⟨s0, -, -⟩, ⟨-, r4, r5, r6⟩, -⟩ := hR
  have e1 : mbM m t 14 0 0 12 = (bwalk (m 15 0 0 0) (t * m 15 0 0 5).toNat (m 15 0 0 4, m 15 0 0 6)).1 := by simp [mbM, mbT, mbG, up]
  have e2 : mbM m t 14 0 0 13 = (bwalk (m 15 0 0 0) (t * m 15 0 0 5).toNat (m 15 0 0 4, m 15 0 0 6)).2 := by simp [mbM, mbT, mbG, up]
  have eb : bwN g t = bwalk (m 15 0 0 0) (t * m 15 0 0 5).toNat (m 15 0 0 4, m 15 0 0 6) := by
    unfold bwN; rw [s0, r4, r5, r6, Int.mul_comm]
  unfold bnN mbA mUn
  rw [e1, e2, eb, unf_1, r4, r5, r6, s0]
  have : w = 0 ∨ w = 1 ∨ w = 2 := by omega
  rcases this with rfl | rfl | rfl
  · rfl
  · rfl
  · rfl
