/-! copies of canyons, rows of the reference -/
def ck (g : St) (k n : Int) : Prop := wf g k 1 ∧ (∀ p, 0 ≤ p → p < 4 → eOf g k p ≤ 6) ∧ bd g k n
def sameK (u : St) (k : Int) (g : St) (o : Int) : Prop := (∀ i, 0 ≤ i → i ≤ 2 → u 1 k 0 i = g 1 o 0 i ∧ u 2 k 0 i = g 2 o 0 i ∧ u 3 k 0 i = g 3 o 0 i) ∧ (∀ p x, 0 ≤ p → p < 4 → 0 ≤ x → x < 6 → u 6 k p x = g 6 o p x) ∧ els u k = els g o
def pmK (g : St) (k : Int) : Prop := (∀ i, 0 ≤ i → i < 24 → 0 ≤ g 5 k 0 i ∧ g 5 k 0 i < 24) ∧ (∀ i j, 0 ≤ i → i < 24 → 0 ≤ j → j < 24 → g 5 k 0 i = g 5 k 0 j → i = j)
theorem pm_of {g : St} {k d : Int} (h : wf g k d) : pmK g k := ⟨h.2.2.2.2.2.2.2.2.2.1, h.2.2.2.2.2.2.2.2.2.2.1⟩
theorem cpE_n7 (g : St) (k o : Int) {f : Nat} (h : f ≠ 7) : ∀ n : Nat, cpE g k o n f = cp3 g k o 4 f
  | 0 => rfl
  | n + 1 => by rw [cpE, cp7_f _ _ _ _ _ h]; exact cpE_n7 g k o h n
theorem cpE_7 {g : St} {k o : Int} (hko : k ≠ o) (hp : pmK g k) : ∀ n : Nat, (n : Int) ≤ 24 → ∀ i q : Int, 0 ≤ i → i < n → 0 ≤ q → q ≤ 4 → cpE g k o n 7 k (g 5 k 0 i) q = g 7 o (g 5 o 0 i) q
  | 0, _, i, q, h0, h1, _, _ => by omega
  | n + 1, hn, i, q, h0, h1, q0, q4 => by
    have ih := cpE_7 hko hp n (by omega) i q h0
    have o7 : ∀ j x, cpE g k o n 7 o j x = g 7 o j x := fun j x => cpE_o g k o hko 7 j x n
    rw [cpE]
    unfold cp7
    by_cases hi : i = n
    · subst hi
      have hq : q = 0 ∨ q = 1 ∨ q = 2 ∨ q = 3 ∨ q = 4 := by omega
      rcases hq with rfl | rfl | rfl | rfl | rfl
      · rw [up_i (by decide), up_i (by decide), up_i (by decide), up_i (by decide), up_s, o7]
      · rw [up_i (by decide), up_i (by decide), up_i (by decide), up_s, o7]
      · rw [up_i (by decide), up_i (by decide), up_s, o7]
      · rw [up_i (by decide), up_s, o7]
      · rw [up_s, o7]
    · have hj : g 5 k 0 i ≠ g 5 k 0 n := fun he => hi (hp.2 i n h0 (by omega) (by omega) (by omega) he)
      rw [up_j hj, up_j hj, up_j hj, up_j hj, up_j hj]
      exact ih (by omega) q0 q4
theorem cp_same {g : St} {k o : Int} (hko : k ≠ o) (hw : wf g o 1) (hp : pmK g k) {n : Nat} (hn : n = (g 1 o 0 2).toNat) : sameK (cpE g k o n) k g o := by
  have hN := hw.2.2.2.2.2.2.2.1
  have e1 : ∀ i, 0 ≤ i → i ≤ 2 → cpE g k o n 1 k 0 i = g 1 o 0 i := fun i a b => by
    rw [cpE_n7 _ _ _ (by decide)]; unfold cp3 cp2 cp1; rw [if_neg (by omega), if_neg (by omega), if_pos ⟨rfl, rfl, rfl, a, b⟩]
  refine ⟨fun i a b => ⟨e1 i a b, ?_, ?_⟩, fun p x a b c d => ?_, ?_⟩
  · rw [cpE_n7 _ _ _ (by decide)]; unfold cp3 cp2; rw [if_neg (by omega), if_pos ⟨rfl, rfl, rfl, a, b⟩]
  · rw [cpE_n7 _ _ _ (by decide)]; unfold cp3 cp2 cp1; rw [if_neg (by omega), if_neg (by omega), if_neg (by omega), if_pos ⟨rfl, rfl, rfl, a, b⟩]
  · rw [cpE_n7 _ _ _ (by decide)]; unfold cp3; rw [if_pos ⟨rfl, rfl, ⟨a, b⟩, c, by omega⟩]
  · unfold els
    rw [e1 2 (by decide) (by decide)]
    refine List.map_congr_left (fun i hi => ?_)
    have hi := List.mem_range.mp hi
    have q := cpE_7 hko hp n (by omega) i
    unfold ev eF
    rw [cpE_5, q 0 (by omega) (by omega) (by decide) (by decide), q 1 (by omega) (by omega) (by decide) (by decide), q 2 (by omega) (by omega) (by decide) (by decide), q 3 (by omega) (by omega) (by decide) (by decide), q 4 (by omega) (by omega) (by decide) (by decide)]
theorem same_fk {g u : St} {k : Int} (h : ∀ f : Nat, 1 ≤ f → f ≤ 7 → u f k = g f k) : sameK u k g k := by
  refine ⟨fun i _ _ => ⟨by rw [h 1 (by decide) (by decide)], by rw [h 2 (by decide) (by decide)], by rw [h 3 (by decide) (by decide)]⟩, fun p x _ _ _ _ => by rw [h 6 (by decide) (by decide)], ?_⟩
  unfold els ev eF
  rw [h 1 (by decide) (by decide), h 5 (by decide) (by decide), h 7 (by decide) (by decide)]
theorem same_tr {g u v : St} {k o q : Int} (h : sameK v q u k) (h2 : sameK u k g o) : sameK v q g o := ⟨fun i a b => by
  have x := h.1 i a b
  have y := h2.1 i a b
  exact ⟨x.1.trans y.1, x.2.1.trans y.2.1, x.2.2.trans y.2.2⟩, fun p x a b c d => (h.2.1 p x a b c d).trans (h2.2.1 p x a b c d), h.2.2.trans h2.2.2⟩
theorem same_ev {u g : St} {k o i : Int} (h : sameK u k g o) (h0 : 0 ≤ i) (h1 : i < g 1 o 0 2) : ev u k i = ev g o i := by
  have e := congrArg (fun l : List E5 => l[i.toNat]?) h.2.2
  have n := (h.1 2 (by decide) (by decide)).1
  have e : (els u k)[i.toNat]? = (els g o)[i.toNat]? := e
  rw [els_get, els_get, n, if_pos (by omega), if_pos (by omega), show ((i.toNat : Nat) : Int) = i by omega] at e
  exact Option.some.inj e
theorem ck_same {u g : St} {k o n : Int} (h : sameK u k g o) (hp : pmK u k) (hc : ck g o n) : ck u k n := by
  obtain ⟨⟨hS0, hS1, hS2, hB0, hB1, hB2, hCl, hN, hPl, hPm, hPj, hEc, hSo⟩, h6, hb⟩ := hc
  have a0 := h.1 0 (by decide) (by decide)
  have a1 := h.1 1 (by decide) (by decide)
  have a2 := h.1 2 (by decide) (by decide)
  have comp : ∀ i, 0 ≤ i → i < g 1 o 0 2 → u 7 k (u 5 k 0 i) 0 = g 7 o (g 5 o 0 i) 0 ∧ u 7 k (u 5 k 0 i) 1 = g 7 o (g 5 o 0 i) 1 ∧ u 7 k (u 5 k 0 i) 2 = g 7 o (g 5 o 0 i) 2 ∧ u 7 k (u 5 k 0 i) 3 = g 7 o (g 5 o 0 i) 3 ∧ u 7 k (u 5 k 0 i) 4 = g 7 o (g 5 o 0 i) 4 := fun i x y => by
    have e := same_ev h x y
    exact ⟨congrArg (fun x : E5 => x.1) e, congrArg (fun x : E5 => x.2.1) e, congrArg (fun x : E5 => x.2.2.1) e, congrArg (fun x : E5 => x.2.2.2.1) e, congrArg (fun x : E5 => x.2.2.2.2) e⟩
  refine ⟨⟨by omega, by omega, by omega, by omega, by omega, by omega, by omega, by omega, fun j x y => ?_, hp.1, hp.2, fun i x y => ?_, fun i j x y z => ?_⟩, fun p x y => ?_, fun p q x y z w => ?_, by rw [a1.1]; exact hb.2⟩
  · rw [h.2.1 j 0 x y (by decide) (by decide), a0.2.1]; exact hPl j x y
  · have c := comp i x (by omega)
    have o := hEc i x (by omega)
    unfold okE at o ⊢
    rw [c.1, c.2.1, c.2.2.1, c.2.2.2.1, c.2.2.2.2, a0.1, a0.2.1]; exact o
  · have c := comp i x (by omega)
    have d := comp j (by omega) (by omega)
    rw [c.2.2.2.1, d.2.2.2.1]; exact hSo i j x y (by omega)
  · rw [eOf_els, h.2.2, ← eOf_els]; exact h6 p x y
  · rw [h.2.1 p q x y (by omega) (by omega), a0.1]; exact hb.1 p q x y z w
theorem tieS_same {u g m : St} {k o : Int} (h : sameK u k g o) (hR : tieS g o m) : tieS u k m := by
  obtain ⟨⟨⟨s0, s1, s2⟩, ⟨r3, r4, r5, r6⟩, r7, rp, hq⟩, h2, h3⟩ := hR
  have a0 := h.1 0 (by decide) (by decide)
  have a1 := h.1 1 (by decide) (by decide)
  have a2 := h.1 2 (by decide) (by decide)
  refine ⟨⟨⟨by omega, by omega, by omega⟩, ⟨by omega, by omega, by omega, by omega⟩, by omega, fun p x a b c d => by rw [h.2.1 p x a b c d]; exact rp p x a b c d, by rw [h.2.2]; exact hq⟩, by rw [h.2.2]; exact h2, h3⟩
theorem ck_mono {g : St} {k n n2 : Int} (h : n ≤ n2) (hc : ck g k n) : ck g k n2 := ⟨hc.1, hc.2.1, bd_mono h hc.2.2⟩
theorem ck_fk {g u : St} {k n : Int} (h : ∀ f : Nat, 1 ≤ f → f ≤ 7 → u f k = g f k) (hc : ck g k n) : ck u k n := ck_same (same_fk h) (by have := pm_of hc.1; unfold pmK at *; rw [h 5 (by decide) (by decide)]; exact this) hc
