/-! the class's turn as a fold -/
theorem cn_ne {P : Int → Bool} {r : Int} (h0 : 0 ≤ r) (hr : P r = true) : ∀ n : Nat, cn P n = cn (fun i => decide (i ≠ r ∧ P i = true)) n + (if r < n then 1 else 0)
  | 0 => by rw [if_neg (by omega)]; rfl
  | n + 1 => by
    rw [cn, cn, cn_ne h0 hr n]
    by_cases hn : (n : Int) = r
    · have q1 : P n = true := by rw [hn]; exact hr
      rw [if_pos q1, if_neg (show ¬ r < (n : Int) by omega), if_neg (show ¬ decide ((n : Int) ≠ r ∧ P n = true) = true from fun hx => (of_decide_eq_true hx).1 hn), if_pos (show r < ((n + 1 : Nat) : Int) by omega)] <;> omega
    · by_cases hp : P n = true
      · rw [if_pos hp, if_pos (show decide ((n : Int) ≠ r ∧ P n = true) = true from decide_eq_true ⟨hn, hp⟩)]
        by_cases hl : r < n
        · rw [if_pos hl, if_pos (show r < ((n + 1 : Nat) : Int) by omega)] <;> omega
        · rw [if_neg hl, if_neg (show ¬ r < ((n + 1 : Nat) : Int) by omega)] <;> omega
      · rw [if_neg hp, if_neg (show ¬ decide ((n : Int) ≠ r ∧ P n = true) = true from fun hx => hp (of_decide_eq_true hx).2)]
        by_cases hl : r < n
        · rw [if_pos hl, if_pos (show r < ((n + 1 : Nat) : Int) by omega)] <;> omega
        · rw [if_neg hl, if_neg (show ¬ r < ((n + 1 : Nat) : Int) by omega)] <;> omega
theorem eCl_els {g : St} {k r : Int} (h0 : 0 ≤ r) (h1 : r < g 1 k 0 2) : eCl g k r ↔ clL (els g k) (ev g k r) = true := by
  have a := cn_count (fun i => smE (ev g k r) (ev g k i)) (fun i : Nat => ev g k i) (smE (ev g k r)) (fun i => rfl) (g 1 k 0 2).toNat
  have b := cn_ne (P := fun i => smE (ev g k r) (ev g k i)) (r := r) h0 (by simp) (g 1 k 0 2).toNat
  rw [if_pos (by omega)] at b
  have c : cn (fun i => decide (i ≠ r ∧ smE (ev g k r) (ev g k i) = true)) (g 1 k 0 2).toNat = cn (pCl g k r) (g 1 k 0 2).toNat := cn_congr (fun i _ _ => by
    unfold pCl
    refine decide_eq_decide.mpr ?_
    rw [decide_eq_true_eq]
    exact Iff.rfl)
  show 0 < cn (pCl g k r) (g 1 k 0 2).toNat ↔ decide (1 < (els g k).countP (smE (ev g k r))) = true
  rw [decide_eq_true_eq]
  have e : ((((List.range (g 1 k 0 2).toNat).map (fun i : Nat => ev g k i)).countP (smE (ev g k r)) : Nat) : Int) = cn (pCl g k r) (g 1 k 0 2).toNat + 1 := by rw [← a, b, c]
  show _ ↔ 1 < ((List.range (g 1 k 0 2).toNat).map (fun i : Nat => ev g k i)).countP (smE (ev g k r))
  omega
theorem up_bm (u : St) (k p q : Int) : (fun x y => up u 6 k p q (u 6 k p q + 1) 6 k x y) = bm (fun x y => u 6 k x y) p q := by
  funext x y; simp only [up, bm]; grind
def asC (k : Int) (q : St × Int) : AS := (fun p x => q.1 6 k p x, q.1 3 k 0 1, q.1 3 k 0 2, q.2)
theorem ic_fx {g u : St} {k r z : Int} (h0 : 0 ≤ r) (h1 : r < g 1 k 0 2) (hf : ∀ f : Nat, f ≠ 3 → f ≠ 6 → u f = g f) (h3 : u 3 k 0 0 = g 3 k 0 0) (h6 : ∀ j, u 6 k j 0 = g 6 k j 0) : asC k (icG u k r, z + icR u k r) = fx (clL (els g k)) (fun p => g 6 k p 0) (g 3 k 0 0) (asC k (u, z)) (ev g k r) := by
  have e1 : eCl u k r ↔ eCl g k r := by
    show 0 < cn (pCl u k r) (u 1 k 0 2).toNat ↔ 0 < cn (pCl g k r) (g 1 k 0 2).toNat
    unfold pCl; rw [hf 1 (by decide) (by decide), hf 5 (by decide) (by decide), hf 7 (by decide) (by decide)]
  have e2 : ∀ q, eF u k r q = eF g k r q := fun q => by unfold eF; rw [hf 5 (by decide) (by decide), hf 7 (by decide) (by decide)]
  have e3 := eCl_els h0 h1
  unfold icG icR fx
  by_cases c1 : eCl u k r
  · rw [if_pos c1, if_pos c1, if_pos (e3.mp (e1.mp c1)), e2]
    unfold asC
    simp only []
    rw [up_bm, up_f (by decide), up_f (by decide), Int.add_zero]; rfl
  · rw [if_neg c1, if_neg c1, if_neg (fun hx => c1 (e1.mpr (e3.mpr hx))), e2, e2, h6]
    by_cases c2 : g 6 k (eF g k r 0) 0 ≠ eF g k r 1
    · rw [if_pos c2, if_pos c2, if_pos (show (fun p => g 6 k p 0) (ev g k r).1 ≠ (ev g k r).2.1 from c2)]
      unfold asC
      simp only []
      rw [up_bm, up_f (by decide), up_f (by decide), Int.add_zero]; rfl
    · rw [if_neg c2, if_neg c2, if_neg (show ¬ (fun p => g 6 k p 0) (ev g k r).1 ≠ (ev g k r).2.1 from c2), h3]
      by_cases c3 : g 3 k 0 0 ≠ eF g k r 1
      · rw [if_pos c3, if_pos c3, if_pos (show g 3 k 0 0 ≠ (ev g k r).2.1 from c3)]
        unfold asC
        simp only []
        rw [up_bm, up_f (by decide), up_f (by decide), Int.add_zero]; rfl
      · rw [if_neg c3, if_neg c3, if_neg (show ¬ g 3 k 0 0 ≠ (ev g k r).2.1 from c3), e2]
        unfold asC
        simp only []
        have eb : (fun p x => up (up (up (up u 6 k (eF g k r 0) 3 (u 6 k (eF g k r 0) 3 + 1)) 6 k (eF g k r 0) 1 (u 6 k (eF g k r 0) 1 + 1)) 3 k 0 1 (fwS (u 3 k 0 1) (eF g k r 2))) 3 k 0 2 (fwR (u 3 k 0 2) (eF g k r 2)) 6 k p x) = bm (bm (fun p x => u 6 k p x) (eF g k r 0) 3) (eF g k r 0) 1 := by
          rw [← up_bm, ← up_bm]
          funext p x
          rw [up_f (by decide), up_f (by decide)]
          simp only [up]; grind
        rw [eb, up_i (by decide), up_s, up_s]; rfl
theorem ca_fold (g : St) (k : Int) : ∀ n : Nat, (n : Int) ≤ g 1 k 0 2 → asC k (caN g k n) = ((els g k).take n).foldl (fx (clL (els g k)) (fun p => g 6 k p 0) (g 3 k 0 0)) (asC k (g, 0)) ∧ (caN g k n).1 3 k 0 0 = g 3 k 0 0 ∧ ∀ j, (caN g k n).1 6 k j 0 = g 6 k j 0
  | 0, _ => ⟨rfl, rfl, fun _ => rfl⟩
  | n + 1, hn => by
    have ih := ca_fold g k n (by omega)
    have hx := ic_fx (g := g) (u := (caN g k n).1) (k := k) (r := n) (z := (caN g k n).2) (by omega) (by omega) (fun f a b => caN_f g k a b n) ih.2.1 ih.2.2
    refine ⟨?_, ?_, fun j => ?_⟩
    · rw [caN, hx, List.take_succ, List.foldl_append, els_get, if_pos (by omega)]
      show fx _ _ _ (asC k (caN g k n)) _ = _
      rw [ih.1]; rfl
    · rw [caN]; exact (icG_0 _ _ _).trans ih.2.1
    · rw [caN]; exact (icG_p _ _ _ _).trans (ih.2.2 j)
