/-! class and reference: what would clash, when to call -/
theorem du_tie {g m : St} {p t : Int} (hR : tie g 0 m) : cn (pDue g 0 p t) (g 1 0 0 2).toNat = mCo m p t := by
  have a := cn_count (pDue g 0 p t) (fun i : Nat => ev g 0 i) (fun e : E5 => decide (e.2.1 = p ∧ e.2.2.2.1 = t)) (fun i => rfl) (g 1 0 0 2).toNat
  have b := cn_count (mDu m p t) (fun i : Nat => mev m i) (fun e : E5 => decide (e.2.1 = p ∧ e.2.2.2.1 = t)) (fun i => rfl) (m 15 0 0 9).toNat
  have c := hR.2.2.2.2.countP_eq (fun e : E5 => decide (e.2.1 = p ∧ e.2.2.2.1 = t))
  show _ = cn (mDu m p t) (m 15 0 0 9).toNat
  rw [a, b]
  exact congrArg (fun n : Nat => (n : Int)) c
theorem cl_tie {g m : St} {p w : Int} (hR : tie g 0 m) (hp : 0 ≤ p ∧ p < 4) (hw : 0 ≤ w ∧ w ≤ 1) : (eT g 0 (g 6 0 p 0) w = eT g 0 (g 6 0 p 0) (1 - w) ∨ eDue g 0 (g 6 0 p 0) (g 1 0 0 0 + eT g 0 (g 6 0 p 0) w)) ↔ mIs m p w 0 := by
  have e0 := hR.2.2.2.1 p 0 hp.1 hp.2 (by decide) (by decide)
  have r3 := hR.2.1.1
  have d := du_tie (p := g 6 0 p 0) (t := g 1 0 0 0 + eT g 0 (g 6 0 p 0) w) hR
  show _ ∨ 0 < cn (pDue g 0 (g 6 0 p 0) (g 1 0 0 0 + eT g 0 (g 6 0 p 0) w)) (g 1 0 0 2).toNat ↔ _
  rw [d, eT_tie (w := w) hR hp, eT_tie (w := 1 - w) hR hp]
  unfold mIs
  rw [e0, r3, Int.zero_add]
  have : w = 0 ∨ w = 1 := by omega
  rcases this with rfl | rfl
  · exact Iff.rfl
  · exact ⟨fun h => h.imp Eq.symm id, fun h => h.imp Eq.symm id⟩
theorem frst_no {P : Int → Bool} (h : ∀ i, P i = false) : ∀ (n : Nat) (a : Int), frst P n a = -1
  | 0, _ => rfl
  | n + 1, a => by rw [frst, if_neg (by rw [h a]; decide)]; exact frst_no h n (a + 1)
theorem unf_1 (p s r t l : Int) : unf p s r t l = unf p 1 r (t * s) l := by unfold unf; rw [Int.one_mul, Int.mul_comm s t]
theorem ci_tie {g m : St} {p : Int} (hR : tie g 0 m) (hp : 0 ≤ p ∧ p < 4) : (if eT g 0 (g 6 0 p 0) 0 = eT g 0 (g 6 0 p 0) 1 then -1 else frst (pW g 0 (g 6 0 p 0)) 61 0) = mBw m p := by
  have e0 := hR.2.2.2.1 p 0 hp.1 hp.2 (by decide) (by decide)
  obtain ⟨⟨s0, s1, s2⟩, ⟨r3, r4, r5, r6⟩, -⟩ := id hR
  have t0' := eT_tie (w := 0) hR hp
  have t1' := eT_tie (w := 1) hR hp
  unfold mBw
  by_cases h : eT g 0 (g 6 0 p 0) 0 = eT g 0 (g 6 0 p 0) 1
  · rw [if_pos h]
    refine (frst_no (fun i => decide_eq_false ?_) 61 0).symm
    rw [t0', t1'] at h
    intro hx
    rcases hx with hx | hx
    · exact hx.1 (Or.inl h)
    · exact hx.1 (Or.inl h)
  · rw [if_neg h]
    have one : ∀ w i, (w = 0 ∨ w = 1) → (mB g 0 (g 6 0 p 0) (i + eT g 0 (g 6 0 p 0) w) ↔ mMe m p w i) := fun w i hw => by
      have tw := eT_tie (w := w) hR hp
      have d := du_tie (p := g 6 0 p 0) (t := g 1 0 0 0 + (i + eT g 0 (g 6 0 p 0) w)) hR
      show (unf (g 3 0 0 0) (g 3 0 0 1) (g 3 0 0 2) (i + eT g 0 (g 6 0 p 0) w) (g 2 0 0 0) = g 6 0 p 0 ∧ ¬ 0 < cn (pDue g 0 (g 6 0 p 0) (g 1 0 0 0 + (i + eT g 0 (g 6 0 p 0) w))) (g 1 0 0 2).toNat) ↔ _
      rw [d, tw, unf_1, r4, r5, r6, s0, r3, e0]
      rw [t0', t1'] at h
      unfold mMe mIs mUn
      constructor
      · intro ⟨a, b⟩; exact ⟨fun hx => hx.elim h b, a⟩
      · intro ⟨a, b⟩; exact ⟨b, fun hx => a (Or.inr hx)⟩
    have e : pW g 0 (g 6 0 p 0) = mMB m p := by
      funext i
      unfold pW mMB
      exact decide_eq_decide.mpr (or_congr (one 0 i (Or.inl rfl)) (one 1 i (Or.inr rfl)))
    rw [e]
