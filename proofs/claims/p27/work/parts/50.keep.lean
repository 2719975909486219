/-! what holds between the turns, and what is told then -/
def K (g : St) : Prop := wq g 1 ∧ wf g 0 1 ∧ ctr g 0 ∧ tieS g 0 (em g) ∧ cons g ∧ (0 ≤ g 8 0 0 1 ∧ g 8 0 0 1 ≤ 6) ∧ (0 ≤ g 1 0 0 1 ∧ g 1 0 0 1 ≤ 100000000)
def zz (g v : St) : Prop := ∀ (f : Nat) (k : Int), f ≤ 17 → ¬ (f = 3 ∧ k = 9) → v f k = g f k
theorem zz_re (g : St) : zz g g := fun _ _ _ _ => rfl
theorem zz_tr {g u v : St} (h : zz g u) (h2 : zz u v) : zz g v := fun f k a b => (h2 f k a b).trans (h f k a b)
theorem zz_f {g v : St} (h : zz g v) {f : Nat} (hf : f ≤ 17) (h3 : f ≠ 3) : v f = g f := by funext k; exact h f k hf (fun x => h3 x.1)
theorem zz_em {g v : St} (h : zz g v) : em v = em g := em_cg (fun f a b => zz_f h b (by omega))
theorem K_z {g v : St} (h : zz g v) (hK : K g) : K v := by
  obtain ⟨k1, k2, k3, k4, k5, k6, k7⟩ := hK
  have e := zz_em h
  have e14 := zz_f h (f := 14) (by decide) (by decide)
  have e15 := zz_f h (f := 15) (by decide) (by decide)
  refine ⟨?_, wf_fk (fun f a b => h f 0 (by omega) (by omega)) k2, ?_, ?_, ?_, ?_, ?_⟩
  · unfold wq at k1 ⊢; rw [e, e14, e15]; exact k1
  · unfold ctr at k3 ⊢; rw [h 6 0 (by decide) (by omega)]; exact k3
  · rw [e]; exact tieS_same (same_fk (fun f a b => h f 0 (by omega) (by omega))) k4
  · unfold cons plF at k5 ⊢; rw [e14, e15]; exact k5
  · rw [h 8 0 (by decide) (by omega)]; exact k6
  · rw [h 1 0 (by decide) (by omega)]; exact k7
theorem k_pl {g : St} (h : K g) {p w : Int} (hp : 0 ≤ p ∧ p < 4) (hw : 0 ≤ w ∧ w < 3) : plN g 0 p w = g 15 0 0 (6 * p + w) := by
  have rp := (tieL h.2.2.2.1).2.2.2.1
  rw [← rp p w hp.1 hp.2 hw.1 (by omega)]
  have hx : w = 0 ∨ w = 1 ∨ w = 2 := by omega
  rcases hx with rfl | rfl | rfl <;> rfl
theorem k_pl2 {g : St} (h : K g) {p w : Int} (hp : 0 ≤ p ∧ p < 4) (hw : 3 ≤ w ∧ w < 6) : plN g 0 p (w + 1) = g 15 0 0 (6 * p + w) := by
  have rp := (tieL h.2.2.2.1).2.2.2.1
  rw [← rp p w hp.1 hp.2 (by omega) hw.2]
  have hx : w = 3 ∨ w = 4 ∨ w = 5 := by omega
  rcases hx with rfl | rfl | rfl <;> rfl
theorem k_pl3 {g : St} (h : K g) (p : Int) : plN g 0 p 3 = lUw g p := by
  show eOf g 0 p = _
  rw [eOf_tie h.2.2.2.1.1, lUw_em]
theorem k_sm {g : St} (h : K g) {w : Int} (hw : 3 ≤ w ∧ w < 6) : smN g 0 (w + 1) = g 15 0 0 w + g 15 0 0 (6 + w) + g 15 0 0 (12 + w) + g 15 0 0 (18 + w) := by
  unfold smN
  rw [k_pl2 h (by decide) hw, k_pl2 h (by decide) hw, k_pl2 h (by decide) hw, k_pl2 h (by decide) hw, show 6 * 0 + w = w by omega, show 6 * 1 + w = 6 + w by omega, show 6 * 2 + w = 12 + w by omega, show 6 * 3 + w = 18 + w by omega]
theorem k_sm1 {g : St} (h : K g) {w : Int} (hw : 0 ≤ w ∧ w < 3) : smN g 0 w = g 15 0 0 w + g 15 0 0 (6 + w) + g 15 0 0 (12 + w) + g 15 0 0 (18 + w) := by
  unfold smN
  rw [k_pl h (by decide) hw, k_pl h (by decide) hw, k_pl h (by decide) hw, k_pl h (by decide) hw, show 6 * 0 + w = w by omega, show 6 * 1 + w = 6 + w by omega, show 6 * 2 + w = 12 + w by omega, show 6 * 3 + w = 18 + w by omega]
theorem k_ct {g : St} (h : K g) : ctN g 0 = g 14 0 0 3 ∧ ctN g 1 = g 14 0 0 4 ∧ ctN g 2 = g 14 0 0 5 ∧ ctN g 3 = (g 14 0 0 6 + 1) / 2 ∧ ctN g 5 = g 14 0 0 8 ∧ ctN g 6 = g 15 0 0 3 + g 15 0 0 9 + g 15 0 0 15 + g 15 0 0 21 ∧ ctN g 7 = g 15 0 0 4 + g 15 0 0 10 + g 15 0 0 16 + g 15 0 0 22 ∧ ctN g 8 = g 15 0 0 5 + g 15 0 0 11 + g 15 0 0 17 + g 15 0 0 23 ∧ ctN g 9 = g 15 0 0 1 + g 15 0 0 7 + g 15 0 0 13 + g 15 0 0 19 ∧ ctN g 10 = g 14 0 0 7 := by
  obtain ⟨⟨s0, s1, s2⟩, ⟨r3, r4, r5, r6⟩, r7, rp, he, h9, h8⟩ := tieL h.2.2.2.1
  refine ⟨r3, r4, r5, r6, ?_, ?_, ?_, ?_, ?_, r7⟩
  · have e := k_sm1 h (w := 2) (by decide)
    show 2 * smN g 0 2 = _
    rw [e, h8]; rfl
  · exact k_sm h (w := 3) (by decide)
  · exact k_sm h (w := 4) (by decide)
  · exact k_sm h (w := 5) (by decide)
  · exact k_sm1 h (w := 1) (by decide)
theorem k_et {g : St} (h : K g) {p w : Int} (hp : 0 ≤ p ∧ p < 4) : eT g 0 (g 6 0 p 0) w = lDl g (g 15 0 0 (6 * p)) w := by
  obtain ⟨s, r, r7, rp, -⟩ := tieL h.2.2.2.1
  rw [lDl_h s, rp p 0 hp.1 hp.2 (by decide) (by decide), show 6 * p + 0 = 6 * p by omega]
theorem k_cl {g : St} (h : K g) {p w : Int} (hp : 0 ≤ p ∧ p < 4) (hw : 0 ≤ w ∧ w ≤ 1) : (if eT g 0 (g 6 0 p 0) w = eT g 0 (g 6 0 p 0) (1 - w) ∨ eDue g 0 (g 6 0 p 0) (g 1 0 0 0 + eT g 0 (g 6 0 p 0) w) then (1 : Int) else 0) = if lDl g (g 15 0 0 (6 * p)) (1 - w) = lDl g (g 15 0 0 (6 * p)) w ∨ 0 < lCo g (g 15 0 0 (6 * p)) (g 14 0 0 3 + lDl g (g 15 0 0 (6 * p)) w) then 1 else 0 := by
  have e := cl_tie h.2.2.2.1.1 hp hw
  have e2 : mIs (em g) p w 0 ↔ (lDl g (g 15 0 0 (6 * p)) (1 - w) = lDl g (g 15 0 0 (6 * p)) w ∨ 0 < lCo g (g 15 0 0 (6 * p)) (g 14 0 0 3 + lDl g (g 15 0 0 (6 * p)) w)) := by
    unfold mIs
    rw [lD1_em hp, lD1_em hp, lD1_em hp, em_p hp (by decide), lCo_em, em_q (by decide) (by decide), show 6 * p + 0 = 6 * p by omega, Int.zero_add]
    have hx : w = 0 ∨ w = 1 := by omega
    rcases hx with rfl | rfl
    · rw [show (1 : Int) - 0 = 1 by decide]; constructor <;> (rintro (a | a); exact Or.inl a.symm; exact Or.inr a)
    · rw [show (1 : Int) - 1 = 0 by decide]
  by_cases hc : mIs (em g) p w 0
  · rw [if_pos (e.mpr hc), if_pos (e2.mp hc)]
  · rw [if_neg (fun hx => hc (e.mp hx)), if_neg (fun hx => hc (e2.mpr hx))]
theorem k_bn {g : St} (h : K g) {t : Int} (ht : 0 ≤ t) : bnN g t 0 = lmG g (t * g 14 0 0 5).toNat 14 0 0 4 ∧ bnN g t 1 = lmG g (t * g 14 0 0 5).toNat 14 0 0 4 ∧ bnN g t 2 = (lmG g (t * g 14 0 0 5).toNat 14 0 0 6 + 1) / 2 := by
  obtain ⟨qS0, qS1, qS2, qB0, qB1, qCl, qN, qPl, qEc⟩ := wq_s h.1
  have q6 := h.1.2.1
  obtain ⟨⟨s0, s1, s2⟩, ⟨r3, r4, r5, r6⟩, -⟩ := tieL h.2.2.2.1
  have hb : 0 ≤ t * g 14 0 0 5 := Int.mul_nonneg ht (by omega)
  have e : bwN g t = bwalk (g 14 0 0 0) (t * g 14 0 0 5).toNat (g 14 0 0 4, (g 14 0 0 6 + 1) / 2) := by
    unfold bwN; rw [s0, r4, r5, r6, Int.mul_comm]
  rw [lm_4, lm_6]
  refine ⟨?_, ?_, ?_⟩
  · show (bwN g t).1 = _; rw [e]
  · show unf (g 3 0 0 0) (g 3 0 0 1) (g 3 0 0 2) t (g 2 0 0 0) = _
    rw [unf_1, s0, r4, r5, r6, bw_unf (by omega) qB0 (show (g 14 0 0 6 + 1) / 2 = 0 ∨ (g 14 0 0 6 + 1) / 2 = 1 by omega) hb]
  · show (bwN g t).2 = _; rw [e]; omega
theorem bnN_lm (g : St) (n : Nat) (t w : Int) : bnN (lmG g n) t w = bnN g t w := by
  unfold bnN bwN; rw [lm_f g n (by decide), lm_f g n (by decide)]
theorem so_end (v : St) (n : Nat) (t : Int) : zz v (up (up (sbG (lmG v n) t) 14 0 0 4 (v 14 0 0 4)) 14 0 0 6 (v 14 0 0 6)) := fun f k hf h3 => by
  by_cases h : f = 3
  · subst h
    rw [up_ff (by decide), up_ff (by decide), sbG_k _ _ (fun hk => h3 ⟨rfl, hk⟩), lm_f v n (by decide)]
  · have e := congrFun (lm_back v n) f
    rw [← e]
    by_cases h14 : f = 14
    · subst h14
      have e2 := sbG_f (lmG v n) t (f := 14) (by decide)
      funext j i
      simp only [up]
      rw [e2]
    · rw [up_ff h14, up_ff h14, up_ff h14, up_ff h14, sbG_f _ _ h]
/-- what the row of sums holds -/
def smP (g : St) : Nat → Int → Int
  | 0, _ => 0
  | n + 1, w => smP g n w + g 15 0 0 (6 * n + w)
theorem smP_s (g : St) {i w : Int} (h : 0 ≤ i) : smP g (i + 1).toNat w = smP g i.toNat w + g 15 0 0 (6 * i + w) := by
  rw [show (i + 1).toNat = i.toNat + 1 by omega, smP, show ((i.toNat : Nat) : Int) = i by omega]
theorem smP_4 (g : St) (w : Int) : smP g 4 w = g 15 0 0 w + g 15 0 0 (6 + w) + g 15 0 0 (12 + w) + g 15 0 0 (18 + w) := by
  show 0 + g 15 0 0 (6 * ((0 : Nat) : Int) + w) + g 15 0 0 (6 * ((1 : Nat) : Int) + w) + g 15 0 0 (6 * ((2 : Nat) : Int) + w) + g 15 0 0 (6 * ((3 : Nat) : Int) + w) = _
  rw [show 6 * ((0 : Nat) : Int) + w = w by omega, show 6 * ((1 : Nat) : Int) + w = 6 + w by omega, show 6 * ((2 : Nat) : Int) + w = 12 + w by omega, show 6 * ((3 : Nat) : Int) + w = 18 + w by omega, Int.zero_add]
theorem zz_18 (g : St) (i v : Int) : zz g (up g 18 0 0 i v) := fun f k hf _ => by rw [up_ff (by omega)]
theorem K_f {g : St} (h : K g) : (∀ f : Nat, f ≤ 17 → f ≠ 3 → g f = g f) := fun _ _ _ => rfl
theorem k_fr {g : St} (h : K g) (p : Int) : (if eT g 0 (g 6 0 p 0) 0 = eT g 0 (g 6 0 p 0) 1 then -1 else frst (pW g 0 (g 6 0 p 0)) 61 0) = (if eT g 0 (g 6 0 p 0) 0 = eT g 0 (g 6 0 p 0) 1 then -1 else frst (pW g 0 (g 6 0 p 0)) 61 0) := rfl
