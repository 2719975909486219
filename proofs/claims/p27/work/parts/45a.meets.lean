/-! the ball's walk and its unfolding -/
theorem bw_ph {L : Int} (hL : 1 ≤ L) {p r : Int} (hp : 0 ≤ p ∧ p ≤ L) (hr : r = 0 ∨ r = 1) : ∀ n : Nat, ∃ k : Int, (if (bwalk L n (p, r)).2 = 0 then 2 * L - (bwalk L n (p, r)).1 else (bwalk L n (p, r)).1) = (if r = 0 then 2 * L - p else p) + n - 2 * L * k
  | 0 => ⟨0, by
    show (if r = 0 then 2 * L - p else p) = (if r = 0 then 2 * L - p else p) + ((0 : Nat) : Int) - 2 * L * 0
    generalize (if r = 0 then 2 * L - p else p) = F
    rw [Int.mul_zero]; omega⟩
  | n + 1 => by
    obtain ⟨k, hk⟩ := bw_ph hL hp hr n
    obtain ⟨b1, b2⟩ := bwalk_in (last := L) hL (q := (p, r)) hp hr n
    rw [bwalk, bstep]
    generalize bwalk L n (p, r) = q at *
    obtain ⟨a, b⟩ := q
    simp only [] at *
    generalize hF : (if r = 0 then 2 * L - p else p) = F at *
    unfold stepP stepR
    rcases b2 with rfl | rfl
    · simp only [if_true] at hk ⊢
      by_cases h0 : a ≤ 0
      · refine ⟨k + 1, ?_⟩
        rw [if_pos h0]
        simp only [show (1 : Int) ≠ 0 by decide, if_false]
        rw [Int.mul_add]; omega
      · refine ⟨k, ?_⟩
        rw [if_neg h0]
        simp only [if_true]
        omega
    · simp only [show (1 : Int) ≠ 0 by decide, if_false] at hk ⊢
      by_cases h0 : a ≥ L
      · refine ⟨k, ?_⟩
        rw [if_pos h0]
        simp only [if_true]
        omega
      · refine ⟨k, ?_⟩
        rw [if_neg h0]
        simp only [show (1 : Int) ≠ 0 by decide, if_false]
        omega
theorem bw_unf {L p r : Int} (hL : 1 ≤ L) (hp : 0 ≤ p ∧ p ≤ L) (hr : r = 0 ∨ r = 1) {s : Int} (hs : 0 ≤ s) : (bwalk L s.toNat (p, r)).1 = unf p 1 r s L := by
  obtain ⟨k, hk⟩ := bw_ph hL hp hr s.toNat
  obtain ⟨b1, b2⟩ := bwalk_in (last := L) hL (q := (p, r)) hp hr s.toNat
  unfold unf
  rw [Int.one_mul]
  rw [show ((s.toNat : Nat) : Int) = s by omega] at hk
  generalize bwalk L s.toNat (p, r) = q at *
  obtain ⟨a, b⟩ := q
  simp only [] at *
  generalize hF : (if r = 0 then 2 * L - p else p) = F at *
  have e : F + s = (if b = 0 then 2 * L - a else a) + 2 * L * k := by omega
  have hm : (F + s) % (2 * L) = (if b = 0 then 2 * L - a else a) % (2 * L) := by rw [e, Int.add_mul_emod_self_left]
  rw [hm]
  rcases b2 with rfl | rfl
  · simp only [if_true]
    by_cases h0 : a = 0
    · subst h0
      rw [show 2 * L - 0 = 2 * L by omega, Int.emod_self, if_pos (by omega)]
    · rw [Int.emod_eq_of_lt (by omega) (by omega)]
      split <;> omega
  · simp only [show (1 : Int) ≠ 0 by decide, if_false]
    rw [Int.emod_eq_of_lt (by omega) (by omega), if_pos (by omega)]
theorem unf_m (p r s L : Int) : unf p 1 r (s % (2 * L)) L = unf p 1 r s L := by
  unfold unf
  rw [Int.one_mul, Int.one_mul, Int.add_emod_emod]
theorem lm_back (g : St) (n : Nat) : up (up (lmG g n) 14 0 0 4 (g 14 0 0 4)) 14 0 0 6 (g 14 0 0 6) = g := by
  unfold lmG
  funext f k j x; simp only [up]; grind
theorem me_iff {g : St} {d p w t : Int} (hq : wq g d) (hp : 0 ≤ p ∧ p < 4) (ht : 0 ≤ t) (hw : 0 ≤ w ∧ w ≤ 1) : mMe (em g) p w t ↔ (¬ (lDl g (g 15 0 0 (6 * p)) 0 = lDl g (g 15 0 0 (6 * p)) 1 ∨ 0 < lCo g (g 15 0 0 (6 * p)) (g 14 0 0 3 + (t + lDl g (g 15 0 0 (6 * p)) w)))) ∧ lmG g (((t + lDl g (g 15 0 0 (6 * p)) w) * g 14 0 0 5) % (2 * g 14 0 0 0)).toNat 14 0 0 4 = g 15 0 0 (6 * p) := by
  obtain ⟨qS0, qS1, qS2, qB0, qB1, qCl, qN, qPl, qEc⟩ := wq_s hq
  have q6 := hq.2.1
  have hd : 1 ≤ lDl g (g 15 0 0 (6 * p)) w ∧ lDl g (g 15 0 0 (6 * p)) w ≤ 100 := dly_in (by omega) qS1 qS2 (qPl p hp.1 hp.2)
  have ep : em g 15 0 0 (10 + 6 * p + 0) = g 15 0 0 (6 * p) := by rw [em_p hp (by decide), show 6 * p + 0 = 6 * p by omega]
  unfold mMe mIs mUn
  rw [lD1_em hp, lD1_em hp, lD1_em hp, ep, lCo_em, em_q (x := 3) (by decide) (by decide), em_q (x := 4) (by decide) (by decide), em_q (x := 5) (by decide) (by decide), em_q (x := 0) (by decide) (by decide), em_6, lm_4]
  have hn : 0 ≤ (t + lDl g (g 15 0 0 (6 * p)) w) * g 14 0 0 5 := Int.mul_nonneg (by omega) (by omega)
  rw [bw_unf (by omega) qB0 (show (g 14 0 0 6 + 1) / 2 = 0 ∨ (g 14 0 0 6 + 1) / 2 = 1 by omega) (Int.emod_nonneg _ (by omega)), unf_m]
/-! ranks -/
theorem cn_lt {P Q : Int → Bool} (h : ∀ i, P i = true → Q i = true) : ∀ {n : Nat} {k : Int}, 0 ≤ k → k < n → Q k = true → ¬ P k = true → cn P n < cn Q n
  | 0, k, h0, h1, _, _ => by omega
  | n + 1, k, h0, h1, hq, hp => by
    have hle : ∀ m : Nat, cn P m ≤ cn Q m := fun m => by
      induction m with
      | zero => exact Int.le_refl _
      | succ m ih =>
        simp only [cn]
        by_cases hx : P m = true
        · rw [if_pos hx, if_pos (h m hx)]; omega
        · rw [if_neg hx]; split <;> omega
    simp only [cn]
    by_cases hk : k = n
    · subst hk
      rw [if_neg hp, if_pos hq]
      have := hle n
      omega
    · have ih := cn_lt h (n := n) h0 (by omega) hq hp
      by_cases hx : P n = true
      · rw [if_pos hx, if_pos (h n hx)]; omega
      · rw [if_neg hx]; split <;> omega
/-- x stands before y, by when they are due -/
def bfL (g : St) (y x : Int) : Prop := g 16 0 0 x / 2 < g 16 0 0 y / 2 ∨ (g 16 0 0 x / 2 = g 16 0 0 y / 2 ∧ x < y)
theorem bf_em {g : St} {y x : Int} (hy : 0 ≤ y) (hx : 0 ≤ x) : bef (em g) y x ↔ bfL g y x := by
  unfold bef bfL
  rw [(em_e (g := g) hy).2.2.2.1, (em_e (g := g) hx).2.2.2.1]
  omega
def rkL (g : St) (i : Int) : Int := cn (fun e => decide (bef (em g) i e)) (g 14 0 0 9).toNat
theorem rk_em (g : St) (i : Int) : rk (em g) i = rkL g i := congrArg (fun x : Int => cn (fun e => decide (bef (em g) i e)) x.toNat) (em_q (g := g) (x := 9) (by decide) (by decide))
theorem rk_lt {g : St} {y x : Int} (hx : 0 ≤ x) (hxn : x < g 14 0 0 9) (hy : 0 ≤ y) (h : bfL g y x) : rkL g x < rkL g y := by
  unfold rkL
  refine cn_lt (fun i hi => ?_) hx (by omega) (decide_eq_true ((bf_em hy hx).mpr h)) (fun hn => ?_)
  · have hb := of_decide_eq_true hi
    refine decide_eq_true ?_
    unfold bef at hb ⊢
    have h2 := (bf_em hy hx).mpr h
    unfold bef at h2
    omega
  · have := (bf_em hx hx).mp (of_decide_eq_true hn)
    unfold bfL at this
    omega
theorem rk_ex {g : St} {r : Int} (h0 : 0 ≤ r) (h1 : r < g 14 0 0 9) : ∃ i : Int, 0 ≤ i ∧ i < g 14 0 0 9 ∧ rkL g i = r := by
  have e9 := em_q (g := g) (x := 9) (by decide) (by decide)
  obtain ⟨i, hi, hr⟩ := (rank_ok (em g) (g 14 0 0 9).toNat (by rw [e9]; omega)).2 r.toNat (by omega)
  exact ⟨i, by omega, by omega, by unfold rkL; rw [hr]; omega⟩
theorem rk_inj {g : St} {x y : Int} (hx : 0 ≤ x) (hxn : x < g 14 0 0 9) (hy : 0 ≤ y) (hyn : y < g 14 0 0 9) (h : rkL g x = rkL g y) : x = y := by
  apply Decidable.byContradiction
  intro hn
  by_cases hb : bfL g y x
  · have := rk_lt hx hxn hy hb; omega
  · have := rk_lt hy hyn hx (show bfL g x y by unfold bfL at hb ⊢; omega); omega
theorem ea_L {g : St} {r k : Int} (h9 : 0 ≤ g 14 0 0 9) (h0 : 0 ≤ r) (h1 : r < g 14 0 0 9) (k0 : 0 ≤ k) (k1 : k < g 14 0 0 9) (hk : rkL g k = r) : eaM (em g) r (em g 15 0 0 9).toNat = k := by
  have e9 := em_q (g := g) (x := 9) (by decide) (by decide)
  obtain ⟨i, hi, hr, he⟩ := eaM_at (em g) r (em g 15 0 0 9).toNat ⟨k.toNat, by rw [e9]; omega, by rw [rk_em, show ((k.toNat : Nat) : Int) = k by omega]; exact hk⟩
  rw [he]
  rw [e9] at hi
  rw [rk_em] at hr
  exact rk_inj (by omega) (by omega) k0 k1 (by omega)
/-- an echo that isn't told yet -/
def lft (g : St) (last beh x : Int) : Prop := last < g 16 0 0 x / 2 ∨ (g 16 0 0 x / 2 = last ∧ beh < x)
def rkI (g : St) (r last beh : Int) : Prop := ∀ x, 0 ≤ x → x < g 14 0 0 9 → (lft g last beh x ↔ r ≤ rkL g x)
def slI (g : St) (last beh x k : Int) : Prop := (k = -1 ∧ ∀ y, 0 ≤ y → y < x → ¬ lft g last beh y) ∨ ((0 ≤ k ∧ k < x) ∧ lft g last beh k ∧ ∀ y, 0 ≤ y → y < x → lft g last beh y → g 16 0 0 k / 2 < g 16 0 0 y / 2 ∨ (g 16 0 0 k / 2 = g 16 0 0 y / 2 ∧ k ≤ y))
theorem sl_0 (g : St) (last beh : Int) : slI g last beh 0 (-1) := Or.inl ⟨rfl, fun y a b => by omega⟩
theorem sl_no {g : St} {last beh x k : Int} (h : slI g last beh x k) (hn : ¬ lft g last beh x) : slI g last beh (x + 1) k := by
  rcases h with ⟨a, b⟩ | ⟨a, b, c⟩
  · refine Or.inl ⟨a, fun y y0 y1 => ?_⟩
    by_cases hy : y = x
    · subst hy; exact hn
    · exact b y y0 (by omega)
  · refine Or.inr ⟨by omega, b, fun y y0 y1 hl => ?_⟩
    by_cases hy : y = x
    · subst hy; exact absurd hl hn
    · exact c y y0 (by omega) hl
theorem sl_ke {g : St} {last beh x k : Int} (hx : 0 ≤ x) (h : slI g last beh x k) (hk : ¬ k < 0) (hd : ¬ g 16 0 0 x / 2 < g 16 0 0 k / 2) : slI g last beh (x + 1) k := by
  rcases h with ⟨a, b⟩ | ⟨a, b, c⟩
  · omega
  · refine Or.inr ⟨by omega, b, fun y y0 y1 hl => ?_⟩
    by_cases hy : y = x
    · subst hy; omega
    · exact c y y0 (by omega) hl
theorem sl_ye {g : St} {last beh x k : Int} (hx : 0 ≤ x) (h : slI g last beh x k) (hl : lft g last beh x) (hk : k < 0 ∨ g 16 0 0 x / 2 < g 16 0 0 k / 2) : slI g last beh (x + 1) x := by
  refine Or.inr ⟨by omega, hl, fun y y0 y1 hy => ?_⟩
  by_cases hyx : y = x
  · subst hyx; omega
  · rcases h with ⟨a, b⟩ | ⟨a, b, c⟩
    · exact absurd hy (b y y0 (by omega))
    · have := c y y0 (by omega) hy
      omega
theorem sl_end {g : St} {r last beh k : Int} (h0 : 0 ≤ r) (h1 : r < g 14 0 0 9) (hI : rkI g r last beh) (h : slI g last beh (g 14 0 0 9) k) : (0 ≤ k ∧ k < g 14 0 0 9) ∧ rkL g k = r := by
  obtain ⟨i, i0, i1, hi⟩ := rk_ex h0 h1
  have hil := (hI i i0 i1).mpr (by omega)
  rcases h with ⟨a, b⟩ | ⟨a, b, c⟩
  · exact absurd hil (b i i0 i1)
  · have hk := (hI k a.1 a.2).mp b
    have hc := c i i0 i1 hil
    by_cases hki : k = i
    · subst hki; exact ⟨a, hi⟩
    · have := rk_lt a.1 a.2 i0 (show bfL g i k by unfold bfL; omega)
      omega
theorem rk_next {g : St} {r k : Int} (k0 : 0 ≤ k) (k1 : k < g 14 0 0 9) (hk : rkL g k = r) : rkI g (r + 1) (g 16 0 0 k / 2) k := fun x x0 x1 => by
  constructor
  · intro h
    have := rk_lt k0 k1 x0 (show bfL g x k by unfold lft at h; unfold bfL; omega)
    omega
  · intro h
    by_cases hb : bfL g k x
    · have := rk_lt x0 x1 k0 hb; omega
    · have hne : x ≠ k := fun he => by rw [he] at h; omega
      unfold bfL at hb
      unfold lft; omega
theorem rk_nn (g : St) (x : Int) : 0 ≤ rkL g x := (cn_nn _ _).1
theorem rk_first {g : St} {d : Int} (hq : wq g d) (hd : 1 ≤ d) : rkI g 0 (g 14 0 0 3) (-1) := fun x x0 x1 => by
  obtain ⟨-, -, -, -, -, -, -, -, qEc⟩ := wq_s hq
  have he := qEc x x0 x1
  have hn := rk_nn g x
  unfold lft
  constructor
  · intro _; exact hn
  · intro _; omega
/-- the last one that is due -/
theorem qu_L {g : St} {d k : Int} (hq : wq g d) (hd : 0 ≤ d) (h9 : 0 < g 14 0 0 9) (k0 : 0 ≤ k) (k1 : k < g 14 0 0 9) (hk : rkL g k = g 14 0 0 9 - 1) : mQu (em g) = g 16 0 0 k / 2 := by
  obtain ⟨-, -, -, -, -, -, -, -, qEc⟩ := wq_s hq
  have e9 := em_q (g := g) (x := 9) (by decide) (by decide)
  have hmax : ∀ x, 0 ≤ x → x < g 14 0 0 9 → g 16 0 0 x / 2 ≤ g 16 0 0 k / 2 := fun x x0 x1 => by
    apply Decidable.byContradiction
    intro hn
    have h1 := rk_lt k0 k1 x0 (show bfL g x k by unfold bfL; omega)
    have h2 : rkL g x < g 14 0 0 9 := by
      have e := (rank_ok (em g) (g 14 0 0 9).toNat (by rw [e9]; omega)).1 x.toNat (by omega)
      obtain ⟨r, hr, hc, -⟩ := e
      rw [show ((x.toNat : Nat) : Int) = x by omega] at hc
      have : rkL g x = r := hc
      omega
    omega
  refine eq_of_le (fun v => ?_)
  unfold mQu
  rw [mxN_le, e9, em_q (x := 3) (by decide) (by decide)]
  constructor
  · rintro ⟨-, h2⟩
    have := h2 k k0 (by omega)
    rw [(em_e k0).2.2.2.1] at this
    exact this
  · intro h
    refine ⟨?_, fun x x0 x1 => ?_⟩
    · have := qEc k k0 k1; omega
    · rw [(em_e x0).2.2.2.1]
      have := hmax x x0 (by omega)
      omega
theorem qu_0 {g : St} (h9 : g 14 0 0 9 = 0) : mQu (em g) = g 14 0 0 3 := by
  unfold mQu
  rw [em_q (x := 9) (by decide) (by decide), em_q (x := 3) (by decide) (by decide), h9]
  rfl
/-! what the law does, and what is due -/
def doR5 (g u : St) (k a b z : Int) : Prop := (k = 0 ∧ se (svG g 0) u 0 a b z) ∨ (k = 1 ∧ z = mvR (svG g 0) 0 a b ∧ u = mvG (svG g 0) 0 a b) ∨ (k = 2 ∧ z = g 3 0 0 0 ∧ u = up (up (up (svG g 0) 3 0 0 0 a) 3 0 0 1 (1 + lw b 9)) 3 0 0 2 (if lw b 2 = 0 then 1 else 0)) ∨ (k = 3 ∧ ((z = -103 ∧ u = g ∧ a = 0 ∧ b < fur g 0) ∨ (z = g 2 0 0 a ∧ u = up (svG g 0) 2 0 0 a b ∧ (a = 0 → fur g 0 ≤ b)))) ∨ (k = 4 ∧ trs 0 a.toNat (svG g 0) u z)
def doH (g : St) (k a b : Int) : Prop := (k = 0 → (0 ≤ a ∧ a < 4) ∧ (0 ≤ b ∧ b ≤ 9)) ∧ (k = 1 → (0 ≤ a ∧ a < 4) ∧ (-9 ≤ b ∧ b ≤ 9)) ∧ (k = 2 → (0 ≤ a ∧ a ≤ g 2 0 0 0) ∧ (0 ≤ b ∧ b ≤ 89)) ∧ (k = 3 → (0 ≤ a ∧ a < 3) ∧ (lsV a ≤ b ∧ b ≤ msV a)) ∧ (k = 4 → (1 ≤ a ∧ a ≤ 99) ∧ g 1 0 0 0 + a ≤ 99999)
def lvG (g : St) (a b : Int) : St := if 0 ≤ g 15 0 0 (6 * a) + b ∧ g 15 0 0 (6 * a) + b ≤ g 14 0 0 0 then up g 15 0 0 (6 * a) (g 15 0 0 (6 * a) + b) else up g 14 0 0 7 (g 14 0 0 7 + 1)
def lvR (g : St) (a b : Int) : Int := if 0 ≤ g 15 0 0 (6 * a) + b ∧ g 15 0 0 (6 * a) + b ≤ g 14 0 0 0 then g 15 0 0 (6 * a) + b else -1
def duR5 (g u : St) (k a b z : Int) : Prop := (k = 0 ∧ z = lcR g a ∧ u = lcG g a b) ∨ (k = 1 ∧ z = lvR g a b ∧ u = lvG g a b) ∨ (k = 2 ∧ z = g 14 0 0 4 ∧ u = up (up (up g 14 0 0 4 a) 14 0 0 5 (1 + lw b 9)) 14 0 0 6 (if lw b 2 = 0 then 1 else -1)) ∨ (k = 3 ∧ ((z = -103 ∧ u = g ∧ a = 0 ∧ ¬ lrN g ≤ b) ∨ (z = g 14 0 0 a ∧ u = up g 14 0 0 a b ∧ (a = 0 → lrN g ≤ b)))) ∨ (k = 4 ∧ lts a.toNat g u z ∧ wq u 1 ∧ u 14 0 0 3 = g 14 0 0 3 + a ∧ (∀ j, 0 ≤ j → j < 24 → u 15 0 0 j ≤ g 15 0 0 j + 24 * a) ∧ (∀ f : Nat, (f < 14 ∨ 17 < f) → u f = g f) ∧ (0 ≤ z ∧ z ≤ 24 * a))
def duH (g : St) (k a b : Int) : Prop := (k = 0 → (0 ≤ a ∧ a < 4) ∧ (0 ≤ b ∧ b ≤ 9) ∧ (lUw g a ≤ 4 → g 14 0 0 9 + 2 ≤ 24)) ∧ (k = 1 → (0 ≤ a ∧ a < 4) ∧ (-9 ≤ b ∧ b ≤ 9)) ∧ (k = 2 → (0 ≤ a ∧ a ≤ g 14 0 0 0) ∧ (0 ≤ b ∧ b ≤ 89)) ∧ (k = 3 → (0 ≤ a ∧ a < 3) ∧ (0 ≤ b ∧ b ≤ 40)) ∧ (k = 4 → (1 ≤ a ∧ a ≤ 99) ∧ g 14 0 0 3 + a ≤ 99999 ∧ ∀ j, 0 ≤ j → j < 24 → g 15 0 0 j + 24 * a ≤ 200000)

set_option maxHeartbeats 4000000 in
set_option maxRecDepth 100000 in
theorem ct_L_meets (l : Launch) (L : Lay) (g : St) (p w t : Int) (hq : wq g 1) (hp : 0 ≤ p ∧ p < 4) (hw : 0 ≤ w ∧ w ≤ 1) (ht : 0 ≤ t ∧ t ≤ 61) : Met l yL_meets (.code yL_meets cL_meets 13 (some .boolean) :: wsL_law) { frames := 1, cells := 0, slots := 0, locals := 26 } (va_Pc [.int (iI p), .int (iI w), .int (iI t), .ref (adr L 14 0 0), .ref (adr L 15 0 0), .ref (adr L 16 0 0), .ref (adr L 17 0 0)] (HS L g)) (va_Qi (fun (r9 : Int32) (u9 : St) => r9 = iI (if mMe (em g) p w t then 1 else 0) ∧ u9 = g) (fun u t => HS L u t) (Af L)) 0 0 (Af L) := by
  refine ct_mk (by decide +kernel) (Nat.le_of_ble_eq_true rfl) ?_
  intro pp ee ss mm bel mth cx C hr hlk
  show V pp l ee { frames := 1, cells := 0, slots := 0, locals := 26 } ss mm ([.int (iI p), .int (iI w), .int (iI t), .ref (adr L 14 0 0), .ref (adr L 15 0 0), .ref (adr L 16 0 0), .ref (adr L 17 0 0)]).toArray bel mth cx 13 L (HH L g) 0 0 _ 0 [(0, .int (iI p)), (1, .int (iI w)), (2, .int (iI t)), (3, .ref (adr L 14 0 0)), (4, .ref (adr L 15 0 0)), (5, .ref (adr L 16 0 0)), (6, .ref (adr L 17 0 0))] []
  obtain ⟨qS0, qS1, qS2, qB0, qB1, qCl, qN, qPl, qEc⟩ := wq_s hq
  have q6 := hq.2.1
  have hpl := qPl p hp.1 hp.2
  have heR := wq_eR hq (by decide)
  have me := me_iff hq hp ht.1 hw
  have hd0 : 1 ≤ lDl g (g 15 0 0 (6 * p)) 0 ∧ lDl g (g 15 0 0 (6 * p)) 0 ≤ 100 := dly_in (by omega) qS1 qS2 hpl
  have hd1 : 1 ≤ lDl g (g 15 0 0 (6 * p)) 1 ∧ lDl g (g 15 0 0 (6 * p)) 1 ≤ 100 := dly_in (by omega) qS1 qS2 hpl
  have hdw : 1 ≤ lDl g (g 15 0 0 (6 * p)) w ∧ lDl g (g 15 0 0 (6 * p)) w ≤ 100 := dly_in (by omega) qS1 qS2 hpl
  have hco := lCo_in g (g 15 0 0 (6 * p)) (g 14 0 0 3 + (t + lDl g (g 15 0 0 (6 * p)) w))
  have hml : 0 ≤ (t + lDl g (g 15 0 0 (6 * p)) w) * g 14 0 0 5 ∧ (t + lDl g (g 15 0 0 (6 * p)) w) * g 14 0 0 5 ≤ 161 * 9 := ⟨Int.mul_nonneg (by omega) (by omega), Int.mul_le_mul (by omega) (by omega) (by omega) (by omega)⟩
  have hmm := emod_in (x := (t + lDl g (g 15 0 0 (6 * p)) w) * g 14 0 0 5) (b := 2 * g 14 0 0 0) (by omega)
  have hb4 : 0 ≤ lmG g (((t + lDl g (g 15 0 0 (6 * p)) w) * g 14 0 0 5) % (2 * g 14 0 0 0)).toNat 14 0 0 4 ∧ lmG g (((t + lDl g (g 15 0 0 (6 * p)) w) * g 14 0 0 5) % (2 * g 14 0 0 0)).toNat 14 0 0 4 ≤ g 14 0 0 0 := by rw [lm_4]; exact (bwalk_in (last := g 14 0 0 0) (by omega) (q := (g 14 0 0 4, (g 14 0 0 6 + 1) / 2)) qB0 (show (g 14 0 0 6 + 1) / 2 = 0 ∨ (g 14 0 0 6 + 1) / 2 = 1 by omega) _).1
  refine v_aload (pc := 0) C 4 rfl dL_meets_0 ?_
  refine v_bipush (pc := 2) C rfl dL_meets_2 ?_
  refine v_iload_n (pc := 4) C 0 rfl rfl dL_meets_4 ?_
  refine v_imul (pc := 5) C dL_meets_5 ?_
  refine al_15 (pc := 6) C ⟨by (first | assumption | omega | (unfold rg; omega)), by (first | assumption | omega | (unfold rg; omega))⟩ dL_meets_6 (g 15 0 0 (6 * p)) (rfl) ?_
  refine v_istore (pc := 7) C [(7, .int (iI (g 15 0 0 (6 * p)))), (0, .int (iI p)), (1, .int (iI w)), (2, .int (iI t)), (3, .ref (adr L 14 0 0)), (4, .ref (adr L 15 0 0)), (5, .ref (adr L 16 0 0)), (6, .ref (adr L 17 0 0))] (by decide) rfl dL_meets_7 ?_
  refine v_iload_n (pc := 9) C 3 rfl rfl dL_meets_9 ?_
  refine v_iload (pc := 10) C 0 rfl dL_meets_10 ?_
  refine v_iload_n (pc := 12) C 2 rfl rfl dL_meets_12 ?_
  refine v_aload_n (pc := 13) C 4 rfl rfl dL_meets_13 ?_
  refine v_calliS (pc := 14) C cw_RL_67 (ct_L_delay l L g (g 15 0 0 (6 * p)) w (by exact qS0) (by exact qS1) (by exact qS2) (by exact hpl) (by omega)) ⟨Nat.le_of_ble_eq_true rfl, Nat.le_of_ble_eq_true rfl⟩ rfl (Nat.le_of_ble_eq_true rfl) ⟨Nat.le_of_ble_eq_true rfl, Nat.le_of_ble_eq_true rfl⟩ rfl dL_meets_14 (fun r9 u9 hP_1 => ?_)
  obtain ⟨hP_1, hP_1b⟩ := hP_1
  rw [hP_1, hP_1b]
  clear hP_1 hP_1b r9 u9
  refine v_iadd (pc := 17) C dL_meets_17 ?_
  refine v_istore (pc := 18) C [(8, .int (iI (t + (lDl g (g 15 0 0 (6 * p)) w)))), (7, .int (iI (g 15 0 0 (6 * p)))), (0, .int (iI p)), (1, .int (iI w)), (2, .int (iI t)), (3, .ref (adr L 14 0 0)), (4, .ref (adr L 15 0 0)), (5, .ref (adr L 16 0 0)), (6, .ref (adr L 17 0 0))] (by decide) rfl dL_meets_18 ?_
  refine v_iload (pc := 20) C 1 rfl dL_meets_20 ?_
  refine v_iconst (pc := 22) C dL_meets_22 ?_
  refine v_aload_n (pc := 23) C 5 rfl rfl dL_meets_23 ?_
  refine v_calliS (pc := 24) C cw_RL_67 (ct_L_delay l L g (g 15 0 0 (6 * p)) 0 (by exact qS0) (by exact qS1) (by exact qS2) (by exact hpl) (by omega)) ⟨Nat.le_of_ble_eq_true rfl, Nat.le_of_ble_eq_true rfl⟩ rfl (Nat.le_of_ble_eq_true rfl) ⟨Nat.le_of_ble_eq_true rfl, Nat.le_of_ble_eq_true rfl⟩ rfl dL_meets_24 (fun r9 u9 hP_2 => ?_)
  obtain ⟨hP_2, hP_2b⟩ := hP_2
  rw [hP_2, hP_2b]
  clear hP_2 hP_2b r9 u9
  refine v_iload (pc := 27) C 1 rfl dL_meets_27 ?_
  refine v_iconst (pc := 29) C dL_meets_29 ?_
  refine v_aload_n (pc := 30) C 5 rfl rfl dL_meets_30 ?_
  refine v_calliS (pc := 31) C cw_RL_67 (ct_L_delay l L g (g 15 0 0 (6 * p)) 1 (by exact qS0) (by exact qS1) (by exact qS2) (by exact hpl) (by omega)) ⟨Nat.le_of_ble_eq_true rfl, Nat.le_of_ble_eq_true rfl⟩ rfl (Nat.le_of_ble_eq_true rfl) ⟨Nat.le_of_ble_eq_true rfl, Nat.le_of_ble_eq_true rfl⟩ rfl dL_meets_31 (fun r9 u9 hP_3 => ?_)
  obtain ⟨hP_3, hP_3b⟩ := hP_3
  rw [hP_3, hP_3b]
  clear hP_3 hP_3b r9 u9
  refine v_icmp_eq (pc := 34) C 56 ⟨by (first | assumption | omega | (unfold rg; omega)), by (first | assumption | omega | (unfold rg; omega))⟩ ⟨by (first | assumption | omega | (unfold rg; omega)), by (first | assumption | omega | (unfold rg; omega))⟩ (by decide) dL_meets_34 (fun h34 => ?_) (fun h34 => ?_)
  · skip
    refine v_iconst (pc := 56) C dL_meets_56 ?_
    refine v_goto (pc := 57) C 61 (by decide) dL_meets_57 ?_
    refine v_istore (pc := 61) C [(9, .int (iI 1)), (8, .int (iI (t + (lDl g (g 15 0 0 (6 * p)) w)))), (7, .int (iI (g 15 0 0 (6 * p)))), (0, .int (iI p)), (1, .int (iI w)), (2, .int (iI t)), (3, .ref (adr L 14 0 0)), (4, .ref (adr L 15 0 0)), (5, .ref (adr L 16 0 0)), (6, .ref (adr L 17 0 0))] (by decide) rfl dL_meets_61 ?_
    refine v_aload_n (pc := 63) C 6 rfl rfl dL_meets_63 ?_
    refine v_iconst (pc := 64) C dL_meets_64 ?_
    refine al_14 (pc := 65) C ⟨by (first | assumption | omega | (unfold rg; omega)), by (first | assumption | omega | (unfold rg; omega))⟩ dL_meets_65 (g 14 0 0 4) (rfl) ?_
    refine v_istore (pc := 66) C [(10, .int (iI (g 14 0 0 4))), (9, .int (iI 1)), (8, .int (iI (t + (lDl g (g 15 0 0 (6 * p)) w)))), (7, .int (iI (g 15 0 0 (6 * p)))), (0, .int (iI p)), (1, .int (iI w)), (2, .int (iI t)), (3, .ref (adr L 14 0 0)), (4, .ref (adr L 15 0 0)), (5, .ref (adr L 16 0 0)), (6, .ref (adr L 17 0 0))] (by decide) rfl dL_meets_66 ?_
    refine v_aload_n (pc := 68) C 7 rfl rfl dL_meets_68 ?_
    refine v_bipush (pc := 69) C rfl dL_meets_69 ?_
    refine al_14 (pc := 71) C ⟨by (first | assumption | omega | (unfold rg; omega)), by (first | assumption | omega | (unfold rg; omega))⟩ dL_meets_71 (g 14 0 0 6) (rfl) ?_
    refine v_istore (pc := 72) C [(11, .int (iI (g 14 0 0 6))), (10, .int (iI (g 14 0 0 4))), (9, .int (iI 1)), (8, .int (iI (t + (lDl g (g 15 0 0 (6 * p)) w)))), (7, .int (iI (g 15 0 0 (6 * p)))), (0, .int (iI p)), (1, .int (iI w)), (2, .int (iI t)), (3, .ref (adr L 14 0 0)), (4, .ref (adr L 15 0 0)), (5, .ref (adr L 16 0 0)), (6, .ref (adr L 17 0 0))] (by decide) rfl dL_meets_72 ?_
    refine v_iload (pc := 74) C 3 rfl dL_meets_74 ?_
    refine v_aload_n (pc := 76) C 8 rfl rfl dL_meets_76 ?_
    refine v_iconst (pc := 77) C dL_meets_77 ?_
    refine al_14 (pc := 78) C ⟨by (first | assumption | omega | (unfold rg; omega)), by (first | assumption | omega | (unfold rg; omega))⟩ dL_meets_78 (g 14 0 0 5) (rfl) ?_
    refine v_imul (pc := 79) C dL_meets_79 ?_
    refine v_iconst (pc := 80) C dL_meets_80 ?_
    refine v_aload_n (pc := 81) C 8 rfl rfl dL_meets_81 ?_
    refine v_iconst (pc := 82) C dL_meets_82 ?_
    refine al_14 (pc := 83) C ⟨by (first | assumption | omega | (unfold rg; omega)), by (first | assumption | omega | (unfold rg; omega))⟩ dL_meets_83 (g 14 0 0 0) (rfl) ?_
    refine v_imul (pc := 84) C dL_meets_84 ?_
    refine v_irem (pc := 85) C (⟨⟨by omega, by omega⟩, ⟨by omega, by omega⟩, by omega, by omega⟩) dL_meets_85 ?_
    refine v_aload_n (pc := 86) C 8 rfl rfl dL_meets_86 ?_
    refine v_callvS (pc := 87) C cw_RL_75 (ct_L_moves l L g (((t + (lDl g (g 15 0 0 (6 * p)) w)) * (g 14 0 0 5)) % (2 * (g 14 0 0 0))) (by omega) (by exact qS0) (by exact qB0) (by exact q6)) ⟨Nat.le_of_ble_eq_true rfl, Nat.le_of_ble_eq_true rfl⟩ rfl (Nat.le_of_ble_eq_true rfl) ⟨Nat.le_of_ble_eq_true rfl, Nat.le_of_ble_eq_true rfl⟩ rfl dL_meets_87 (fun u9 hP_4 => ?_)
    rw [hP_4]
    clear hP_4 u9
    refine v_aload_n (pc := 90) C 8 rfl rfl dL_meets_90 ?_
    refine v_iconst (pc := 91) C dL_meets_91 ?_
    refine al_14 (pc := 92) C ⟨by (first | assumption | omega | (unfold rg; omega)), by (first | assumption | omega | (unfold rg; omega))⟩ dL_meets_92 ((lmG g (((t + (lDl g (g 15 0 0 (6 * p)) w)) * (g 14 0 0 5)) % (2 * (g 14 0 0 0))).toNat) 14 0 0 4) (rfl) ?_
    refine v_iload (pc := 93) C 4 rfl dL_meets_93 ?_
    refine v_icmp_ne (pc := 95) C 102 ⟨by (first | assumption | omega | (unfold rg; omega)), by (first | assumption | omega | (unfold rg; omega))⟩ ⟨by (first | assumption | omega | (unfold rg; omega)), by (first | assumption | omega | (unfold rg; omega))⟩ (by decide) dL_meets_95 (fun h95 => ?_) (fun h95 => ?_)
    · skip
      refine v_iconst (pc := 102) C dL_meets_102 ?_
      refine v_istore (pc := 103) C [(12, .int (iI 0)), (11, .int (iI (g 14 0 0 6))), (10, .int (iI (g 14 0 0 4))), (9, .int (iI 1)), (8, .int (iI (t + (lDl g (g 15 0 0 (6 * p)) w)))), (7, .int (iI (g 15 0 0 (6 * p)))), (0, .int (iI p)), (1, .int (iI w)), (2, .int (iI t)), (3, .ref (adr L 14 0 0)), (4, .ref (adr L 15 0 0)), (5, .ref (adr L 16 0 0)), (6, .ref (adr L 17 0 0))] (by decide) rfl dL_meets_103 ?_
      refine v_aload_n (pc := 105) C 9 rfl rfl dL_meets_105 ?_
      refine v_iconst (pc := 106) C dL_meets_106 ?_
      refine v_iload (pc := 107) C 2 rfl dL_meets_107 ?_
      refine as_14 (pc := 109) C ⟨by (first | assumption | omega | (unfold rg; omega)), by (first | assumption | omega | (unfold rg; omega))⟩ dL_meets_109 ?_
      refine v_aload_n (pc := 110) C 9 rfl rfl dL_meets_110 ?_
      refine v_bipush (pc := 111) C rfl dL_meets_111 ?_
      refine v_iload (pc := 113) C 1 rfl dL_meets_113 ?_
      refine as_14 (pc := 115) C ⟨by (first | assumption | omega | (unfold rg; omega)), by (first | assumption | omega | (unfold rg; omega))⟩ dL_meets_115 ?_
      refine v_iload (pc := 116) C 0 rfl dL_meets_116 ?_
      refine v_if_eq (pc := 118) C 130 ⟨by (first | assumption | omega | (unfold rg; omega)), by (first | assumption | omega | (unfold rg; omega))⟩ (by decide) dL_meets_118 (fun h118 => ?_) (fun h118 => ?_)
      · skip
        refine v_iconst (pc := 130) C dL_meets_130 ?_
        exact v_zret (pc := 131) C hr hlk (by first | assumption | omega | (unfold rg; omega)) (⟨congrArg iI (by first | rw [if_pos (me.mpr ⟨by omega, by omega⟩)] | rw [if_neg (fun hx => by have := me.mp hx; omega)]), by exact lm_back g _⟩) dL_meets_131
      · skip
        exfalso; omega
    · skip
      refine v_iconst (pc := 98) C dL_meets_98 ?_
      refine v_goto (pc := 99) C 103 (by decide) dL_meets_99 ?_
      refine v_istore (pc := 103) C [(12, .int (iI 1)), (11, .int (iI (g 14 0 0 6))), (10, .int (iI (g 14 0 0 4))), (9, .int (iI 1)), (8, .int (iI (t + (lDl g (g 15 0 0 (6 * p)) w)))), (7, .int (iI (g 15 0 0 (6 * p)))), (0, .int (iI p)), (1, .int (iI w)), (2, .int (iI t)), (3, .ref (adr L 14 0 0)), (4, .ref (adr L 15 0 0)), (5, .ref (adr L 16 0 0)), (6, .ref (adr L 17 0 0))] (by decide) rfl dL_meets_103 ?_
      refine v_aload_n (pc := 105) C 9 rfl rfl dL_meets_105 ?_
      refine v_iconst (pc := 106) C dL_meets_106 ?_
      refine v_iload (pc := 107) C 2 rfl dL_meets_107 ?_
      refine as_14 (pc := 109) C ⟨by (first | assumption | omega | (unfold rg; omega)), by (first | assumption | omega | (unfold rg; omega))⟩ dL_meets_109 ?_
      refine v_aload_n (pc := 110) C 9 rfl rfl dL_meets_110 ?_
      refine v_bipush (pc := 111) C rfl dL_meets_111 ?_
      refine v_iload (pc := 113) C 1 rfl dL_meets_113 ?_
      refine as_14 (pc := 115) C ⟨by (first | assumption | omega | (unfold rg; omega)), by (first | assumption | omega | (unfold rg; omega))⟩ dL_meets_115 ?_
      refine v_iload (pc := 116) C 0 rfl dL_meets_116 ?_
      refine v_if_eq (pc := 118) C 130 ⟨by (first | assumption | omega | (unfold rg; omega)), by (first | assumption | omega | (unfold rg; omega))⟩ (by decide) dL_meets_118 (fun h118 => ?_) (fun h118 => ?_)
      · skip
        exfalso; omega
      · skip
        refine v_iload (pc := 121) C 3 rfl dL_meets_121 ?_
        refine v_if_ne (pc := 123) C 130 ⟨by (first | assumption | omega | (unfold rg; omega)), by (first | assumption | omega | (unfold rg; omega))⟩ (by decide) dL_meets_123 (fun h123 => ?_) (fun h123 => ?_)
        · skip
          refine v_iconst (pc := 130) C dL_meets_130 ?_
          exact v_zret (pc := 131) C hr hlk (by first | assumption | omega | (unfold rg; omega)) (⟨congrArg iI (by first | rw [if_pos (me.mpr ⟨by omega, by omega⟩)] | rw [if_neg (fun hx => by have := me.mp hx; omega)]), by exact lm_back g _⟩) dL_meets_131
        · skip
          exfalso; omega
  · skip
    refine v_iload (pc := 37) C 1 rfl dL_meets_37 ?_
    refine v_aload_n (pc := 39) C 5 rfl rfl dL_meets_39 ?_
    refine v_iconst (pc := 40) C dL_meets_40 ?_
    refine al_14 (pc := 41) C ⟨by (first | assumption | omega | (unfold rg; omega)), by (first | assumption | omega | (unfold rg; omega))⟩ dL_meets_41 (g 14 0 0 3) (rfl) ?_
    refine v_iload (pc := 42) C 0 rfl dL_meets_42 ?_
    refine v_iadd (pc := 44) C dL_meets_44 ?_
    refine v_aload_n (pc := 45) C 5 rfl rfl dL_meets_45 ?_
    refine v_aload (pc := 46) C 7 rfl dL_meets_46 ?_
    refine v_aload (pc := 48) C 8 rfl dL_meets_48 ?_
    refine v_calliS (pc := 50) C cw_RL_71 (ct_L_coming l L g (g 15 0 0 (6 * p)) ((g 14 0 0 3) + (t + (lDl g (g 15 0 0 (6 * p)) w))) (by exact heR) (by omega) (by omega)) ⟨Nat.le_of_ble_eq_true rfl, Nat.le_of_ble_eq_true rfl⟩ rfl (Nat.le_of_ble_eq_true rfl) ⟨Nat.le_of_ble_eq_true rfl, Nat.le_of_ble_eq_true rfl⟩ rfl dL_meets_50 (fun r9 u9 hP_5 => ?_)
    obtain ⟨hP_5, hP_5b⟩ := hP_5
    rw [hP_5, hP_5b]
    clear hP_5 hP_5b r9 u9
    refine v_if_le (pc := 53) C 60 ⟨by (first | assumption | omega | (unfold rg; omega)), by (first | assumption | omega | (unfold rg; omega))⟩ (by decide) dL_meets_53 (fun h53 => ?_) (fun h53 => ?_)
    · skip
      refine v_iconst (pc := 60) C dL_meets_60 ?_
      refine v_istore (pc := 61) C [(9, .int (iI 0)), (8, .int (iI (t + (lDl g (g 15 0 0 (6 * p)) w)))), (7, .int (iI (g 15 0 0 (6 * p)))), (0, .int (iI p)), (1, .int (iI w)), (2, .int (iI t)), (3, .ref (adr L 14 0 0)), (4, .ref (adr L 15 0 0)), (5, .ref (adr L 16 0 0)), (6, .ref (adr L 17 0 0))] (by decide) rfl dL_meets_61 ?_
      refine v_aload_n (pc := 63) C 6 rfl rfl dL_meets_63 ?_
      refine v_iconst (pc := 64) C dL_meets_64 ?_
      refine al_14 (pc := 65) C ⟨by (first | assumption | omega | (unfold rg; omega)), by (first | assumption | omega | (unfold rg; omega))⟩ dL_meets_65 (g 14 0 0 4) (rfl) ?_
      refine v_istore (pc := 66) C [(10, .int (iI (g 14 0 0 4))), (9, .int (iI 0)), (8, .int (iI (t + (lDl g (g 15 0 0 (6 * p)) w)))), (7, .int (iI (g 15 0 0 (6 * p)))), (0, .int (iI p)), (1, .int (iI w)), (2, .int (iI t)), (3, .ref (adr L 14 0 0)), (4, .ref (adr L 15 0 0)), (5, .ref (adr L 16 0 0)), (6, .ref (adr L 17 0 0))] (by decide) rfl dL_meets_66 ?_
      refine v_aload_n (pc := 68) C 7 rfl rfl dL_meets_68 ?_
      refine v_bipush (pc := 69) C rfl dL_meets_69 ?_
      refine al_14 (pc := 71) C ⟨by (first | assumption | omega | (unfold rg; omega)), by (first | assumption | omega | (unfold rg; omega))⟩ dL_meets_71 (g 14 0 0 6) (rfl) ?_
      refine v_istore (pc := 72) C [(11, .int (iI (g 14 0 0 6))), (10, .int (iI (g 14 0 0 4))), (9, .int (iI 0)), (8, .int (iI (t + (lDl g (g 15 0 0 (6 * p)) w)))), (7, .int (iI (g 15 0 0 (6 * p)))), (0, .int (iI p)), (1, .int (iI w)), (2, .int (iI t)), (3, .ref (adr L 14 0 0)), (4, .ref (adr L 15 0 0)), (5, .ref (adr L 16 0 0)), (6, .ref (adr L 17 0 0))] (by decide) rfl dL_meets_72 ?_
      refine v_iload (pc := 74) C 3 rfl dL_meets_74 ?_
      refine v_aload_n (pc := 76) C 8 rfl rfl dL_meets_76 ?_
      refine v_iconst (pc := 77) C dL_meets_77 ?_
      refine al_14 (pc := 78) C ⟨by (first | assumption | omega | (unfold rg; omega)), by (first | assumption | omega | (unfold rg; omega))⟩ dL_meets_78 (g 14 0 0 5) (rfl) ?_
      refine v_imul (pc := 79) C dL_meets_79 ?_
      refine v_iconst (pc := 80) C dL_meets_80 ?_
      refine v_aload_n (pc := 81) C 8 rfl rfl dL_meets_81 ?_
      refine v_iconst (pc := 82) C dL_meets_82 ?_
      refine al_14 (pc := 83) C ⟨by (first | assumption | omega | (unfold rg; omega)), by (first | assumption | omega | (unfold rg; omega))⟩ dL_meets_83 (g 14 0 0 0) (rfl) ?_
      refine v_imul (pc := 84) C dL_meets_84 ?_
      refine v_irem (pc := 85) C (⟨⟨by omega, by omega⟩, ⟨by omega, by omega⟩, by omega, by omega⟩) dL_meets_85 ?_
      refine v_aload_n (pc := 86) C 8 rfl rfl dL_meets_86 ?_
      refine v_callvS (pc := 87) C cw_RL_75 (ct_L_moves l L g (((t + (lDl g (g 15 0 0 (6 * p)) w)) * (g 14 0 0 5)) % (2 * (g 14 0 0 0))) (by omega) (by exact qS0) (by exact qB0) (by exact q6)) ⟨Nat.le_of_ble_eq_true rfl, Nat.le_of_ble_eq_true rfl⟩ rfl (Nat.le_of_ble_eq_true rfl) ⟨Nat.le_of_ble_eq_true rfl, Nat.le_of_ble_eq_true rfl⟩ rfl dL_meets_87 (fun u9 hP_6 => ?_)
      rw [hP_6]
      clear hP_6 u9
      refine v_aload_n (pc := 90) C 8 rfl rfl dL_meets_90 ?_
      refine v_iconst (pc := 91) C dL_meets_91 ?_
      refine al_14 (pc := 92) C ⟨by (first | assumption | omega | (unfold rg; omega)), by (first | assumption | omega | (unfold rg; omega))⟩ dL_meets_92 ((lmG g (((t + (lDl g (g 15 0 0 (6 * p)) w)) * (g 14 0 0 5)) % (2 * (g 14 0 0 0))).toNat) 14 0 0 4) (rfl) ?_
      refine v_iload (pc := 93) C 4 rfl dL_meets_93 ?_
      refine v_icmp_ne (pc := 95) C 102 ⟨by (first | assumption | omega | (unfold rg; omega)), by (first | assumption | omega | (unfold rg; omega))⟩ ⟨by (first | assumption | omega | (unfold rg; omega)), by (first | assumption | omega | (unfold rg; omega))⟩ (by decide) dL_meets_95 (fun h95 => ?_) (fun h95 => ?_)
      · skip
        refine v_iconst (pc := 102) C dL_meets_102 ?_
        refine v_istore (pc := 103) C [(12, .int (iI 0)), (11, .int (iI (g 14 0 0 6))), (10, .int (iI (g 14 0 0 4))), (9, .int (iI 0)), (8, .int (iI (t + (lDl g (g 15 0 0 (6 * p)) w)))), (7, .int (iI (g 15 0 0 (6 * p)))), (0, .int (iI p)), (1, .int (iI w)), (2, .int (iI t)), (3, .ref (adr L 14 0 0)), (4, .ref (adr L 15 0 0)), (5, .ref (adr L 16 0 0)), (6, .ref (adr L 17 0 0))] (by decide) rfl dL_meets_103 ?_
        refine v_aload_n (pc := 105) C 9 rfl rfl dL_meets_105 ?_
        refine v_iconst (pc := 106) C dL_meets_106 ?_
        refine v_iload (pc := 107) C 2 rfl dL_meets_107 ?_
        refine as_14 (pc := 109) C ⟨by (first | assumption | omega | (unfold rg; omega)), by (first | assumption | omega | (unfold rg; omega))⟩ dL_meets_109 ?_
        refine v_aload_n (pc := 110) C 9 rfl rfl dL_meets_110 ?_
        refine v_bipush (pc := 111) C rfl dL_meets_111 ?_
        refine v_iload (pc := 113) C 1 rfl dL_meets_113 ?_
        refine as_14 (pc := 115) C ⟨by (first | assumption | omega | (unfold rg; omega)), by (first | assumption | omega | (unfold rg; omega))⟩ dL_meets_115 ?_
        refine v_iload (pc := 116) C 0 rfl dL_meets_116 ?_
        refine v_if_eq (pc := 118) C 130 ⟨by (first | assumption | omega | (unfold rg; omega)), by (first | assumption | omega | (unfold rg; omega))⟩ (by decide) dL_meets_118 (fun h118 => ?_) (fun h118 => ?_)
        · skip
          refine v_iconst (pc := 130) C dL_meets_130 ?_
          exact v_zret (pc := 131) C hr hlk (by first | assumption | omega | (unfold rg; omega)) (⟨congrArg iI (by first | rw [if_pos (me.mpr ⟨by omega, by omega⟩)] | rw [if_neg (fun hx => by have := me.mp hx; omega)]), by exact lm_back g _⟩) dL_meets_131
        · skip
          exfalso; omega
      · skip
        refine v_iconst (pc := 98) C dL_meets_98 ?_
        refine v_goto (pc := 99) C 103 (by decide) dL_meets_99 ?_
        refine v_istore (pc := 103) C [(12, .int (iI 1)), (11, .int (iI (g 14 0 0 6))), (10, .int (iI (g 14 0 0 4))), (9, .int (iI 0)), (8, .int (iI (t + (lDl g (g 15 0 0 (6 * p)) w)))), (7, .int (iI (g 15 0 0 (6 * p)))), (0, .int (iI p)), (1, .int (iI w)), (2, .int (iI t)), (3, .ref (adr L 14 0 0)), (4, .ref (adr L 15 0 0)), (5, .ref (adr L 16 0 0)), (6, .ref (adr L 17 0 0))] (by decide) rfl dL_meets_103 ?_
        refine v_aload_n (pc := 105) C 9 rfl rfl dL_meets_105 ?_
        refine v_iconst (pc := 106) C dL_meets_106 ?_
        refine v_iload (pc := 107) C 2 rfl dL_meets_107 ?_
        refine as_14 (pc := 109) C ⟨by (first | assumption | omega | (unfold rg; omega)), by (first | assumption | omega | (unfold rg; omega))⟩ dL_meets_109 ?_
        refine v_aload_n (pc := 110) C 9 rfl rfl dL_meets_110 ?_
        refine v_bipush (pc := 111) C rfl dL_meets_111 ?_
        refine v_iload (pc := 113) C 1 rfl dL_meets_113 ?_
        refine as_14 (pc := 115) C ⟨by (first | assumption | omega | (unfold rg; omega)), by (first | assumption | omega | (unfold rg; omega))⟩ dL_meets_115 ?_
        refine v_iload (pc := 116) C 0 rfl dL_meets_116 ?_
        refine v_if_eq (pc := 118) C 130 ⟨by (first | assumption | omega | (unfold rg; omega)), by (first | assumption | omega | (unfold rg; omega))⟩ (by decide) dL_meets_118 (fun h118 => ?_) (fun h118 => ?_)
        · skip
          exfalso; omega
        · skip
          refine v_iload (pc := 121) C 3 rfl dL_meets_121 ?_
          refine v_if_ne (pc := 123) C 130 ⟨by (first | assumption | omega | (unfold rg; omega)), by (first | assumption | omega | (unfold rg; omega))⟩ (by decide) dL_meets_123 (fun h123 => ?_) (fun h123 => ?_)
          · skip
            exfalso; omega
          · skip
            refine v_iconst (pc := 126) C dL_meets_126 ?_
            refine v_goto (pc := 127) C 131 (by decide) dL_meets_127 ?_
            exact v_zret (pc := 131) C hr hlk (by first | assumption | omega | (unfold rg; omega)) (⟨congrArg iI (by first | rw [if_pos (me.mpr ⟨by omega, by omega⟩)] | rw [if_neg (fun hx => by have := me.mp hx; omega)]), by exact lm_back g _⟩) dL_meets_131
    · skip
      refine v_iconst (pc := 56) C dL_meets_56 ?_
      refine v_goto (pc := 57) C 61 (by decide) dL_meets_57 ?_
      refine v_istore (pc := 61) C [(9, .int (iI 1)), (8, .int (iI (t + (lDl g (g 15 0 0 (6 * p)) w)))), (7, .int (iI (g 15 0 0 (6 * p)))), (0, .int (iI p)), (1, .int (iI w)), (2, .int (iI t)), (3, .ref (adr L 14 0 0)), (4, .ref (adr L 15 0 0)), (5, .ref (adr L 16 0 0)), (6, .ref (adr L 17 0 0))] (by decide) rfl dL_meets_61 ?_
      refine v_aload_n (pc := 63) C 6 rfl rfl dL_meets_63 ?_
      refine v_iconst (pc := 64) C dL_meets_64 ?_
      refine al_14 (pc := 65) C ⟨by (first | assumption | omega | (unfold rg; omega)), by (first | assumption | omega | (unfold rg; omega))⟩ dL_meets_65 (g 14 0 0 4) (rfl) ?_
      refine v_istore (pc := 66) C [(10, .int (iI (g 14 0 0 4))), (9, .int (iI 1)), (8, .int (iI (t + (lDl g (g 15 0 0 (6 * p)) w)))), (7, .int (iI (g 15 0 0 (6 * p)))), (0, .int (iI p)), (1, .int (iI w)), (2, .int (iI t)), (3, .ref (adr L 14 0 0)), (4, .ref (adr L 15 0 0)), (5, .ref (adr L 16 0 0)), (6, .ref (adr L 17 0 0))] (by decide) rfl dL_meets_66 ?_
      refine v_aload_n (pc := 68) C 7 rfl rfl dL_meets_68 ?_
      refine v_bipush (pc := 69) C rfl dL_meets_69 ?_
      refine al_14 (pc := 71) C ⟨by (first | assumption | omega | (unfold rg; omega)), by (first | assumption | omega | (unfold rg; omega))⟩ dL_meets_71 (g 14 0 0 6) (rfl) ?_
      refine v_istore (pc := 72) C [(11, .int (iI (g 14 0 0 6))), (10, .int (iI (g 14 0 0 4))), (9, .int (iI 1)), (8, .int (iI (t + (lDl g (g 15 0 0 (6 * p)) w)))), (7, .int (iI (g 15 0 0 (6 * p)))), (0, .int (iI p)), (1, .int (iI w)), (2, .int (iI t)), (3, .ref (adr L 14 0 0)), (4, .ref (adr L 15 0 0)), (5, .ref (adr L 16 0 0)), (6, .ref (adr L 17 0 0))] (by decide) rfl dL_meets_72 ?_
      refine v_iload (pc := 74) C 3 rfl dL_meets_74 ?_
      refine v_aload_n (pc := 76) C 8 rfl rfl dL_meets_76 ?_
      refine v_iconst (pc := 77) C dL_meets_77 ?_
      refine al_14 (pc := 78) C ⟨by (first | assumption | omega | (unfold rg; omega)), by (first | assumption | omega | (unfold rg; omega))⟩ dL_meets_78 (g 14 0 0 5) (rfl) ?_
      refine v_imul (pc := 79) C dL_meets_79 ?_
      refine v_iconst (pc := 80) C dL_meets_80 ?_
      refine v_aload_n (pc := 81) C 8 rfl rfl dL_meets_81 ?_
      refine v_iconst (pc := 82) C dL_meets_82 ?_
      refine al_14 (pc := 83) C ⟨by (first | assumption | omega | (unfold rg; omega)), by (first | assumption | omega | (unfold rg; omega))⟩ dL_meets_83 (g 14 0 0 0) (rfl) ?_
      refine v_imul (pc := 84) C dL_meets_84 ?_
      refine v_irem (pc := 85) C (⟨⟨by omega, by omega⟩, ⟨by omega, by omega⟩, by omega, by omega⟩) dL_meets_85 ?_
      refine v_aload_n (pc := 86) C 8 rfl rfl dL_meets_86 ?_
      refine v_callvS (pc := 87) C cw_RL_75 (ct_L_moves l L g (((t + (lDl g (g 15 0 0 (6 * p)) w)) * (g 14 0 0 5)) % (2 * (g 14 0 0 0))) (by omega) (by exact qS0) (by exact qB0) (by exact q6)) ⟨Nat.le_of_ble_eq_true rfl, Nat.le_of_ble_eq_true rfl⟩ rfl (Nat.le_of_ble_eq_true rfl) ⟨Nat.le_of_ble_eq_true rfl, Nat.le_of_ble_eq_true rfl⟩ rfl dL_meets_87 (fun u9 hP_7 => ?_)
      rw [hP_7]
      clear hP_7 u9
      refine v_aload_n (pc := 90) C 8 rfl rfl dL_meets_90 ?_
      refine v_iconst (pc := 91) C dL_meets_91 ?_
      refine al_14 (pc := 92) C ⟨by (first | assumption | omega | (unfold rg; omega)), by (first | assumption | omega | (unfold rg; omega))⟩ dL_meets_92 ((lmG g (((t + (lDl g (g 15 0 0 (6 * p)) w)) * (g 14 0 0 5)) % (2 * (g 14 0 0 0))).toNat) 14 0 0 4) (rfl) ?_
      refine v_iload (pc := 93) C 4 rfl dL_meets_93 ?_
      refine v_icmp_ne (pc := 95) C 102 ⟨by (first | assumption | omega | (unfold rg; omega)), by (first | assumption | omega | (unfold rg; omega))⟩ ⟨by (first | assumption | omega | (unfold rg; omega)), by (first | assumption | omega | (unfold rg; omega))⟩ (by decide) dL_meets_95 (fun h95 => ?_) (fun h95 => ?_)
      · skip
        refine v_iconst (pc := 102) C dL_meets_102 ?_
        refine v_istore (pc := 103) C [(12, .int (iI 0)), (11, .int (iI (g 14 0 0 6))), (10, .int (iI (g 14 0 0 4))), (9, .int (iI 1)), (8, .int (iI (t + (lDl g (g 15 0 0 (6 * p)) w)))), (7, .int (iI (g 15 0 0 (6 * p)))), (0, .int (iI p)), (1, .int (iI w)), (2, .int (iI t)), (3, .ref (adr L 14 0 0)), (4, .ref (adr L 15 0 0)), (5, .ref (adr L 16 0 0)), (6, .ref (adr L 17 0 0))] (by decide) rfl dL_meets_103 ?_
        refine v_aload_n (pc := 105) C 9 rfl rfl dL_meets_105 ?_
        refine v_iconst (pc := 106) C dL_meets_106 ?_
        refine v_iload (pc := 107) C 2 rfl dL_meets_107 ?_
        refine as_14 (pc := 109) C ⟨by (first | assumption | omega | (unfold rg; omega)), by (first | assumption | omega | (unfold rg; omega))⟩ dL_meets_109 ?_
        refine v_aload_n (pc := 110) C 9 rfl rfl dL_meets_110 ?_
        refine v_bipush (pc := 111) C rfl dL_meets_111 ?_
        refine v_iload (pc := 113) C 1 rfl dL_meets_113 ?_
        refine as_14 (pc := 115) C ⟨by (first | assumption | omega | (unfold rg; omega)), by (first | assumption | omega | (unfold rg; omega))⟩ dL_meets_115 ?_
        refine v_iload (pc := 116) C 0 rfl dL_meets_116 ?_
        refine v_if_eq (pc := 118) C 130 ⟨by (first | assumption | omega | (unfold rg; omega)), by (first | assumption | omega | (unfold rg; omega))⟩ (by decide) dL_meets_118 (fun h118 => ?_) (fun h118 => ?_)
        · skip
          refine v_iconst (pc := 130) C dL_meets_130 ?_
          exact v_zret (pc := 131) C hr hlk (by first | assumption | omega | (unfold rg; omega)) (⟨congrArg iI (by first | rw [if_pos (me.mpr ⟨by omega, by omega⟩)] | rw [if_neg (fun hx => by have := me.mp hx; omega)]), by exact lm_back g _⟩) dL_meets_131
        · skip
          exfalso; omega
      · skip
        refine v_iconst (pc := 98) C dL_meets_98 ?_
        refine v_goto (pc := 99) C 103 (by decide) dL_meets_99 ?_
        refine v_istore (pc := 103) C [(12, .int (iI 1)), (11, .int (iI (g 14 0 0 6))), (10, .int (iI (g 14 0 0 4))), (9, .int (iI 1)), (8, .int (iI (t + (lDl g (g 15 0 0 (6 * p)) w)))), (7, .int (iI (g 15 0 0 (6 * p)))), (0, .int (iI p)), (1, .int (iI w)), (2, .int (iI t)), (3, .ref (adr L 14 0 0)), (4, .ref (adr L 15 0 0)), (5, .ref (adr L 16 0 0)), (6, .ref (adr L 17 0 0))] (by decide) rfl dL_meets_103 ?_
        refine v_aload_n (pc := 105) C 9 rfl rfl dL_meets_105 ?_
        refine v_iconst (pc := 106) C dL_meets_106 ?_
        refine v_iload (pc := 107) C 2 rfl dL_meets_107 ?_
        refine as_14 (pc := 109) C ⟨by (first | assumption | omega | (unfold rg; omega)), by (first | assumption | omega | (unfold rg; omega))⟩ dL_meets_109 ?_
        refine v_aload_n (pc := 110) C 9 rfl rfl dL_meets_110 ?_
        refine v_bipush (pc := 111) C rfl dL_meets_111 ?_
        refine v_iload (pc := 113) C 1 rfl dL_meets_113 ?_
        refine as_14 (pc := 115) C ⟨by (first | assumption | omega | (unfold rg; omega)), by (first | assumption | omega | (unfold rg; omega))⟩ dL_meets_115 ?_
        refine v_iload (pc := 116) C 0 rfl dL_meets_116 ?_
        refine v_if_eq (pc := 118) C 130 ⟨by (first | assumption | omega | (unfold rg; omega)), by (first | assumption | omega | (unfold rg; omega))⟩ (by decide) dL_meets_118 (fun h118 => ?_) (fun h118 => ?_)
        · skip
          exfalso; omega
        · skip
          refine v_iload (pc := 121) C 3 rfl dL_meets_121 ?_
          refine v_if_ne (pc := 123) C 130 ⟨by (first | assumption | omega | (unfold rg; omega)), by (first | assumption | omega | (unfold rg; omega))⟩ (by decide) dL_meets_123 (fun h123 => ?_) (fun h123 => ?_)
          · skip
            refine v_iconst (pc := 130) C dL_meets_130 ?_
            exact v_zret (pc := 131) C hr hlk (by first | assumption | omega | (unfold rg; omega)) (⟨congrArg iI (by first | rw [if_pos (me.mpr ⟨by omega, by omega⟩)] | rw [if_neg (fun hx => by have := me.mp hx; omega)]), by exact lm_back g _⟩) dL_meets_131
          · skip
            exfalso; omega
