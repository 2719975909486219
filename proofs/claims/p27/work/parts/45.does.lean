/-! the ball's walk and its unfolding -/
theorem bw_ph {L : Int} (hL : 1 ≤ L) {p r : Int} (hp : 0 ≤ p ∧ p ≤ L) (hr : r = 0 ∨ r = 1) : ∀ n : Nat, ∃ k : Int, (if (bwalk L n (p, r)).2 = 0 then 2 * L - (bwalk L n (p, r)).1 else (bwalk L n (p, r)).1) = (if r = 0 then 2 * L - p else p) + n - 2 * L * k
  | 0 => ⟨0, by simp [bwalk]⟩
  | n + 1 => by
    obtain ⟨k, hk⟩ := bw_ph hL hp hr n
    obtain ⟨b1, b2⟩ := bwalk_in (last := L) hL (q := (p, r)) hp hr n
    rw [bwalk, bstep]
    generalize bwalk L n (p, r) = q at *
    obtain ⟨a, b⟩ := q
    simp only [] at *
    generalize hF : (if r = 0 then 2 * L - p else p) = F at *
    unfold stepP stepR
    rcases b2 with rfl | rfl
    · simp only [if_true] at hk ⊢
      by_cases h0 : a ≤ 0
      · refine ⟨k + 1, ?_⟩
        rw [if_pos h0]
        simp only [show (1 : Int) ≠ 0 by decide, if_false]
        rw [Int.mul_add]; omega
      · refine ⟨k, ?_⟩
        rw [if_neg h0]
        simp only [if_true]
        omega
    · simp only [show (1 : Int) ≠ 0 by decide, if_false] at hk ⊢
      by_cases h0 : a ≥ L
      · refine ⟨k, ?_⟩
        rw [if_pos h0]
        simp only [if_true]
        omega
      · refine ⟨k, ?_⟩
        rw [if_neg h0]
        simp only [show (1 : Int) ≠ 0 by decide, if_false]
        omega
theorem bw_unf {L p r : Int} (hL : 1 ≤ L) (hp : 0 ≤ p ∧ p ≤ L) (hr : r = 0 ∨ r = 1) {s : Int} (hs : 0 ≤ s) : (bwalk L s.toNat (p, r)).1 = unf p 1 r s L := by
  obtain ⟨k, hk⟩ := bw_ph hL hp hr s.toNat
  obtain ⟨b1, b2⟩ := bwalk_in (last := L) hL (q := (p, r)) hp hr s.toNat
  unfold unf
  rw [Int.one_mul]
  rw [show ((s.toNat : Nat) : Int) = s by omega] at hk
  generalize bwalk L s.toNat (p, r) = q at *
  obtain ⟨a, b⟩ := q
  simp only [] at *
  generalize hF : (if r = 0 then 2 * L - p else p) = F at *
  have e : F + s = (if b = 0 then 2 * L - a else a) + 2 * L * k := by omega
  have hm : (F + s) % (2 * L) = (if b = 0 then 2 * L - a else a) % (2 * L) := by rw [e, Int.add_mul_emod_self_left]
  rw [hm]
  rcases b2 with rfl | rfl
  · simp only [if_true]
    by_cases h0 : a = 0
    · subst h0
      rw [show 2 * L - 0 = 2 * L by omega, Int.emod_self, if_pos (by omega)]
    · rw [Int.emod_eq_of_lt (by omega) (by omega)]
      split <;> omega
  · simp only [show (1 : Int) ≠ 0 by decide, if_false]
    rw [Int.emod_eq_of_lt (by omega) (by omega), if_pos (by omega)]
theorem unf_m (p r s L : Int) : unf p 1 r (s % (2 * L)) L = unf p 1 r s L := by
  unfold unf
  rw [Int.one_mul, Int.one_mul, Int.add_emod_emod]
theorem lm_back (g : St) (n : Nat) : up (up (lmG g n) 14 0 0 4 (g 14 0 0 4)) 14 0 0 6 (g 14 0 0 6) = g := by
  unfold lmG
  funext f k j x; simp only [up]; grind
theorem me_iff {g : St} {d p w t : Int} (hq : wq g d) (hp : 0 ≤ p ∧ p < 4) (ht : 0 ≤ t) (hw : 0 ≤ w ∧ w ≤ 1) : mMe (em g) p w t ↔ (¬ (lDl g (g 15 0 0 (6 * p)) 0 = lDl g (g 15 0 0 (6 * p)) 1 ∨ 0 < lCo g (g 15 0 0 (6 * p)) (g 14 0 0 3 + (t + lDl g (g 15 0 0 (6 * p)) w)))) ∧ lmG g (((t + lDl g (g 15 0 0 (6 * p)) w) * g 14 0 0 5) % (2 * g 14 0 0 0)).toNat 14 0 0 4 = g 15 0 0 (6 * p) := by
  obtain ⟨qS0, qS1, qS2, qB0, qB1, qCl, qN, qPl, qEc⟩ := wq_s hq
  have q6 := hq.2.1
  have hd : 1 ≤ lDl g (g 15 0 0 (6 * p)) w ∧ lDl g (g 15 0 0 (6 * p)) w ≤ 100 := dly_in (by omega) qS1 qS2 (qPl p hp.1 hp.2)
  have ep : em g 15 0 0 (10 + 6 * p + 0) = g 15 0 0 (6 * p) := by rw [em_p hp (by decide), show 6 * p + 0 = 6 * p by omega]
  unfold mMe mIs mUn
  rw [lD1_em hp, lD1_em hp, lD1_em hp, ep, lCo_em, em_q (x := 3) (by decide) (by decide), em_q (x := 4) (by decide) (by decide), em_q (x := 5) (by decide) (by decide), em_q (x := 0) (by decide) (by decide), em_6, lm_4]
  have hn : 0 ≤ (t + lDl g (g 15 0 0 (6 * p)) w) * g 14 0 0 5 := Int.mul_nonneg (by omega) (by omega)
  rw [bw_unf (by omega) qB0 (show (g 14 0 0 6 + 1) / 2 = 0 ∨ (g 14 0 0 6 + 1) / 2 = 1 by omega) (Int.emod_nonneg _ (by omega)), unf_m]
/-! ranks -/
theorem cn_lt {P Q : Int → Bool} (h : ∀ i, P i = true → Q i = true) : ∀ {n : Nat} {k : Int}, 0 ≤ k → k < n → Q k = true → ¬ P k = true → cn P n < cn Q n
  | 0, k, h0, h1, _, _ => by omega
  | n + 1, k, h0, h1, hq, hp => by
    have hle : ∀ m : Nat, cn P m ≤ cn Q m := fun m => by
      induction m with
      | zero => exact Int.le_refl _
      | succ m ih =>
        simp only [cn]
        by_cases hx : P m = true
        · rw [if_pos hx, if_pos (h m hx)]; omega
        · rw [if_neg hx]; split <;> omega
    simp only [cn]
    by_cases hk : k = n
    · subst hk
      rw [if_neg hp, if_pos hq]
      have := hle n
      omega
    · have ih := cn_lt h (n := n) h0 (by omega) hq hp
      by_cases hx : P n = true
      · rw [if_pos hx, if_pos (h n hx)]; omega
      · rw [if_neg hx]; split <;> omega
/-- x stands before y, by when they are due -/
def bfL (g : St) (y x : Int) : Prop := g 16 0 0 x / 2 < g 16 0 0 y / 2 ∨ (g 16 0 0 x / 2 = g 16 0 0 y / 2 ∧ x < y)
theorem bf_em {g : St} {y x : Int} (hy : 0 ≤ y) (hx : 0 ≤ x) : bef (em g) y x ↔ bfL g y x := by
  unfold bef bfL
  rw [(em_e (g := g) hy).2.2.2.1, (em_e (g := g) hx).2.2.2.1]
  omega
def rkL (g : St) (i : Int) : Int := cn (fun e => decide (bef (em g) i e)) (g 14 0 0 9).toNat
theorem rk_em (g : St) (i : Int) : rk (em g) i = rkL g i := by unfold rk rkL; rw [em_q (by decide) (by decide)]
theorem rk_lt {g : St} {y x : Int} (hx : 0 ≤ x) (hxn : x < g 14 0 0 9) (hy : 0 ≤ y) (h : bfL g y x) : rkL g x < rkL g y := by
  unfold rkL
  refine cn_lt (fun i hi => ?_) hx (by omega) (decide_eq_true ((bf_em hy hx).mpr h)) (fun hn => ?_)
  · have hb := of_decide_eq_true hi
    refine decide_eq_true ?_
    unfold bef at hb ⊢
    have h2 := (bf_em hy hx).mpr h
    unfold bef at h2
    omega
  · have := (bf_em hx hx).mp (of_decide_eq_true hn)
    unfold bfL at this
    omega
theorem rk_ex {g : St} {r : Int} (h0 : 0 ≤ r) (h1 : r < g 14 0 0 9) : ∃ i : Int, 0 ≤ i ∧ i < g 14 0 0 9 ∧ rkL g i = r := by
  have e9 := em_q (g := g) (x := 9) (by decide) (by decide)
  obtain ⟨i, hi, hr⟩ := (rank_ok (em g) (g 14 0 0 9).toNat (by rw [e9]; omega)).2 r.toNat (by omega)
  exact ⟨i, by omega, by omega, by unfold rkL; rw [hr]; omega⟩
theorem rk_inj {g : St} {x y : Int} (hx : 0 ≤ x) (hxn : x < g 14 0 0 9) (hy : 0 ≤ y) (hyn : y < g 14 0 0 9) (h : rkL g x = rkL g y) : x = y := by
  apply Decidable.byContradiction
  intro hn
  by_cases hb : bfL g y x
  · have := rk_lt hx hxn hy hb; omega
  · have := rk_lt hy hyn hx (show bfL g x y by unfold bfL at hb ⊢; omega); omega
theorem ea_L {g : St} {r k : Int} (h9 : 0 ≤ g 14 0 0 9) (h0 : 0 ≤ r) (h1 : r < g 14 0 0 9) (k0 : 0 ≤ k) (k1 : k < g 14 0 0 9) (hk : rkL g k = r) : eaM (em g) r (em g 15 0 0 9).toNat = k := by
  have e9 := em_q (g := g) (x := 9) (by decide) (by decide)
  obtain ⟨i, hi, hr, he⟩ := eaM_at (em g) r (em g 15 0 0 9).toNat ⟨k.toNat, by rw [e9]; omega, by rw [rk_em, show ((k.toNat : Nat) : Int) = k by omega]; exact hk⟩
  rw [he]
  rw [e9] at hi
  rw [rk_em] at hr
  exact rk_inj (by omega) (by omega) k0 k1 (by omega)
/-- an echo that isn't told yet -/
def lft (g : St) (last beh x : Int) : Prop := last < g 16 0 0 x / 2 ∨ (g 16 0 0 x / 2 = last ∧ beh < x)
def rkI (g : St) (r last beh : Int) : Prop := ∀ x, 0 ≤ x → x < g 14 0 0 9 → (lft g last beh x ↔ r ≤ rkL g x)
def slI (g : St) (last beh x k : Int) : Prop := (k = -1 ∧ ∀ y, 0 ≤ y → y < x → ¬ lft g last beh y) ∨ ((0 ≤ k ∧ k < x) ∧ lft g last beh k ∧ ∀ y, 0 ≤ y → y < x → lft g last beh y → g 16 0 0 k / 2 < g 16 0 0 y / 2 ∨ (g 16 0 0 k / 2 = g 16 0 0 y / 2 ∧ k ≤ y))
theorem sl_0 (g : St) (last beh : Int) : slI g last beh 0 (-1) := Or.inl ⟨rfl, fun y a b => by omega⟩
theorem sl_no {g : St} {last beh x k : Int} (h : slI g last beh x k) (hn : ¬ lft g last beh x) : slI g last beh (x + 1) k := by
  rcases h with ⟨a, b⟩ | ⟨a, b, c⟩
  · refine Or.inl ⟨a, fun y y0 y1 => ?_⟩
    by_cases hy : y = x
    · subst hy; exact hn
    · exact b y y0 (by omega)
  · refine Or.inr ⟨by omega, b, fun y y0 y1 hl => ?_⟩
    by_cases hy : y = x
    · subst hy; exact absurd hl hn
    · exact c y y0 (by omega) hl
theorem sl_ke {g : St} {last beh x k : Int} (hx : 0 ≤ x) (h : slI g last beh x k) (hk : ¬ k < 0) (hd : ¬ g 16 0 0 x / 2 < g 16 0 0 k / 2) : slI g last beh (x + 1) k := by
  rcases h with ⟨a, b⟩ | ⟨a, b, c⟩
  · omega
  · refine Or.inr ⟨by omega, b, fun y y0 y1 hl => ?_⟩
    by_cases hy : y = x
    · subst hy; omega
    · exact c y y0 (by omega) hl
theorem sl_ye {g : St} {last beh x k : Int} (hx : 0 ≤ x) (h : slI g last beh x k) (hl : lft g last beh x) (hk : k < 0 ∨ g 16 0 0 x / 2 < g 16 0 0 k / 2) : slI g last beh (x + 1) x := by
  refine Or.inr ⟨by omega, hl, fun y y0 y1 hy => ?_⟩
  by_cases hyx : y = x
  · subst hyx; omega
  · rcases h with ⟨a, b⟩ | ⟨a, b, c⟩
    · exact absurd hy (b y y0 (by omega))
    · have := c y y0 (by omega) hy
      omega
theorem sl_end {g : St} {r last beh k : Int} (h0 : 0 ≤ r) (h1 : r < g 14 0 0 9) (hI : rkI g r last beh) (h : slI g last beh (g 14 0 0 9) k) : (0 ≤ k ∧ k < g 14 0 0 9) ∧ rkL g k = r := by
  obtain ⟨i, i0, i1, hi⟩ := rk_ex h0 h1
  have hil := (hI i i0 i1).mpr (by omega)
  rcases h with ⟨a, b⟩ | ⟨a, b, c⟩
  · exact absurd hil (b i i0 i1)
  · have hk := (hI k a.1 a.2).mp b
    have hc := c i i0 i1 hil
    by_cases hki : k = i
    · subst hki; exact ⟨a, hi⟩
    · have := rk_lt a.1 a.2 i0 (show bfL g i k by unfold bfL; omega)
      omega
theorem rk_next {g : St} {r k : Int} (k0 : 0 ≤ k) (k1 : k < g 14 0 0 9) (hk : rkL g k = r) : rkI g (r + 1) (g 16 0 0 k / 2) k := fun x x0 x1 => by
  constructor
  · intro h
    have := rk_lt k0 k1 x0 (show bfL g x k by unfold lft at h; unfold bfL; omega)
    omega
  · intro h
    by_cases hb : bfL g k x
    · have := rk_lt x0 x1 k0 hb; omega
    · have hne : x ≠ k := fun he => by rw [he] at h; omega
      unfold bfL at hb
      unfold lft; omega
theorem rk_nn (g : St) (x : Int) : 0 ≤ rkL g x := (cn_nn _ _).1
theorem rk_first {g : St} {d : Int} (hq : wq g d) (hd : 1 ≤ d) : rkI g 0 (g 14 0 0 3) (-1) := fun x x0 x1 => by
  obtain ⟨-, -, -, -, -, -, -, -, qEc⟩ := wq_s hq
  have he := qEc x x0 x1
  have hn := rk_nn g x
  unfold lft
  constructor
  · intro _; exact hn
  · intro _; omega
/-- the last one that is due -/
theorem qu_L {g : St} {d k : Int} (hq : wq g d) (hd : 0 ≤ d) (h9 : 0 < g 14 0 0 9) (k0 : 0 ≤ k) (k1 : k < g 14 0 0 9) (hk : rkL g k = g 14 0 0 9 - 1) : mQu (em g) = g 16 0 0 k / 2 := by
  obtain ⟨-, -, -, -, -, -, -, -, qEc⟩ := wq_s hq
  have e9 := em_q (g := g) (x := 9) (by decide) (by decide)
  have hmax : ∀ x, 0 ≤ x → x < g 14 0 0 9 → g 16 0 0 x / 2 ≤ g 16 0 0 k / 2 := fun x x0 x1 => by
    apply Decidable.byContradiction
    intro hn
    have h1 := rk_lt k0 k1 x0 (show bfL g x k by unfold bfL; omega)
    have h2 : rkL g x < g 14 0 0 9 := by
      have e := (rank_ok (em g) (g 14 0 0 9).toNat (by rw [e9]; omega)).1 x.toNat (by omega)
      obtain ⟨r, hr, hc, -⟩ := e
      rw [show ((x.toNat : Nat) : Int) = x by omega] at hc
      have : rkL g x = r := hc
      omega
    omega
  refine eq_of_le (fun v => ?_)
  unfold mQu
  rw [mxN_le, e9, em_q (x := 3) (by decide) (by decide)]
  constructor
  · rintro ⟨-, h2⟩
    have := h2 k k0 (by omega)
    rw [(em_e k0).2.2.2.1] at this
    exact this
  · intro h
    refine ⟨?_, fun x x0 x1 => ?_⟩
    · have := qEc k k0 k1; omega
    · rw [(em_e x0).2.2.2.1]
      have := hmax x x0 (by omega)
      omega
theorem qu_0 {g : St} (h9 : g 14 0 0 9 = 0) : mQu (em g) = g 14 0 0 3 := by
  unfold mQu
  rw [em_q (x := 9) (by decide) (by decide), em_q (x := 3) (by decide) (by decide), h9]
  rfl
/-! what the law does, and what is due -/
def doR5 (g u : St) (k a b z : Int) : Prop := (k = 0 ∧ se (svG g 0) u 0 a b z) ∨ (k = 1 ∧ z = mvR (svG g 0) 0 a b ∧ u = mvG (svG g 0) 0 a b) ∨ (k = 2 ∧ z = g 3 0 0 0 ∧ u = up (up (up (svG g 0) 3 0 0 0 a) 3 0 0 1 (1 + lw b 9)) 3 0 0 2 (if lw b 2 = 0 then 1 else 0)) ∨ (k = 3 ∧ ((z = -103 ∧ u = g ∧ a = 0 ∧ b < fur g 0) ∨ (z = g 2 0 0 a ∧ u = up (svG g 0) 2 0 0 a b ∧ (a = 0 → fur g 0 ≤ b)))) ∨ (k = 4 ∧ trs 0 a.toNat (svG g 0) u z)
def doH (g : St) (k a b : Int) : Prop := (k = 0 → (0 ≤ a ∧ a < 4) ∧ (0 ≤ b ∧ b ≤ 9)) ∧ (k = 1 → (0 ≤ a ∧ a < 4) ∧ (-9 ≤ b ∧ b ≤ 9)) ∧ (k = 2 → (0 ≤ a ∧ a ≤ g 2 0 0 0) ∧ (0 ≤ b ∧ b ≤ 89)) ∧ (k = 3 → (0 ≤ a ∧ a < 3) ∧ (lsV a ≤ b ∧ b ≤ msV a)) ∧ (k = 4 → (1 ≤ a ∧ a ≤ 99) ∧ g 1 0 0 0 + a ≤ 99999)
def lvG (g : St) (a b : Int) : St := if 0 ≤ g 15 0 0 (6 * a) + b ∧ g 15 0 0 (6 * a) + b ≤ g 14 0 0 0 then up g 15 0 0 (6 * a) (g 15 0 0 (6 * a) + b) else up g 14 0 0 7 (g 14 0 0 7 + 1)
def lvR (g : St) (a b : Int) : Int := if 0 ≤ g 15 0 0 (6 * a) + b ∧ g 15 0 0 (6 * a) + b ≤ g 14 0 0 0 then g 15 0 0 (6 * a) + b else -1
def duR5 (g u : St) (k a b z : Int) : Prop := (k = 0 ∧ z = lcR g a ∧ u = lcG g a b) ∨ (k = 1 ∧ z = lvR g a b ∧ u = lvG g a b) ∨ (k = 2 ∧ z = g 14 0 0 4 ∧ u = up (up (up g 14 0 0 4 a) 14 0 0 5 (1 + lw b 9)) 14 0 0 6 (if lw b 2 = 0 then 1 else -1)) ∨ (k = 3 ∧ ((z = -103 ∧ u = g ∧ a = 0 ∧ ¬ lrm g b) ∨ (z = g 14 0 0 a ∧ u = up g 14 0 0 a b ∧ (a = 0 → lrm g b)))) ∨ (k = 4 ∧ lts a.toNat g u z ∧ wq u 1 ∧ u 14 0 0 3 = g 14 0 0 3 + a ∧ (∀ j, 0 ≤ j → j < 24 → u 15 0 0 j ≤ g 15 0 0 j + 24 * a) ∧ (∀ f : Nat, (f < 14 ∨ 17 < f) → u f = g f) ∧ (0 ≤ z ∧ z ≤ 24 * a))
def duH (g : St) (k a b : Int) : Prop := (k = 0 → (0 ≤ a ∧ a < 4) ∧ (0 ≤ b ∧ b ≤ 9) ∧ (lUw g a ≤ 4 → g 14 0 0 9 + 2 ≤ 24)) ∧ (k = 1 → (0 ≤ a ∧ a < 4) ∧ (-9 ≤ b ∧ b ≤ 9)) ∧ (k = 2 → (0 ≤ a ∧ a ≤ g 14 0 0 0) ∧ (0 ≤ b ∧ b ≤ 89)) ∧ (k = 3 → (0 ≤ a ∧ a < 3) ∧ (0 ≤ b ∧ b ≤ 40)) ∧ (k = 4 → (1 ≤ a ∧ a ≤ 99) ∧ g 14 0 0 3 + a ≤ 99999 ∧ ∀ j, 0 ≤ j → j < 24 → g 15 0 0 j + 24 * a ≤ 200000)

theorem cwh_L_call : CWh RL 97 yL_call cL_call 4 (some .int) [(0, 6, 7, 16), (0, 6, 11, 18)] 3 := ⟨u_10_6, u_10_7, u_3_22, u_10_8, by decide +kernel⟩
theorem cwh_L_pass : CWh RL 109 yL_pass cL_pass 3 (some .int) [(0, 5, 6, 18), (0, 5, 10, 26)] 2 := ⟨u_14_4, u_14_5, u_3_22, u_14_6, by decide +kernel⟩
theorem cwh_L_set : CWh RL 107 yL_set cL_set 4 (some .int) [(0, 6, 7, 16), (0, 6, 11, 18), (0, 6, 15, 26)] 3 := ⟨u_13_8, u_13_9, u_3_22, u_13_10, by decide +kernel⟩
theorem cwh_L_throwBall : CWh RL 104 yL_throwBall cL_throwBall 5 (some .int) [(0, 7, 8, 18)] 4 := ⟨u_12_20, u_12_21, u_3_22, u_12_22, by decide +kernel⟩
theorem cwh_L_walk : CWh RL 99 yL_walk cL_walk 4 (some .int) [(0, 6, 7, 16), (0, 6, 11, 18)] 3 := ⟨u_12_9, u_12_10, u_3_22, u_12_11, by decide +kernel⟩
theorem cw_RL_101 : CWs RL 101 yL_low cL_low 2 (some .int) 2 := ⟨u_4_2, u_4_3, u_3_22, u_4_4, by decide +kernel⟩
theorem cw_RL_111 : CWs RL 111 yL_calls cL_calls 9 (some .int) 6 := ⟨u_16_11, u_16_12, u_3_22, u_16_13, by decide +kernel⟩
theorem cw_RL_115 : CWs RL 115 yL_hasRoom cL_hasRoom 6 (some .boolean) 4 := ⟨u_16_20, u_16_21, u_3_22, u_16_22, by decide +kernel⟩
theorem cw_RL_119 : CWs RL 119 yL_passes cL_passes 7 (some .int) 5 := ⟨u_16_23, u_17_0, u_3_22, u_17_1, by decide +kernel⟩
theorem cw_RL_123 : CW RL 123 RX6 yX6_quietIn cX6_quietIn 1 (some .int) 0 := ⟨u_17_17, u_17_18, u_17_19, u_1_2, u_17_20, by decide +kernel⟩
set_option maxHeartbeats 4000000 in
set_option maxRecDepth 100000 in
theorem ct_L_meets (l : Launch) (L : Lay) (g : St) (p w t : Int) (hq : wq g 1) (hp : 0 ≤ p ∧ p < 4) (hw : 0 ≤ w ∧ w ≤ 1) (ht : 0 ≤ t ∧ t ≤ 61) : Met l yL_meets (.code yL_meets cL_meets 13 (some .boolean) :: wsL_law) { frames := 1, cells := 0, slots := 0, locals := 26 } (va_Pc [.int (iI p), .int (iI w), .int (iI t), .ref (adr L 14 0 0), .ref (adr L 15 0 0), .ref (adr L 16 0 0), .ref (adr L 17 0 0)] (HS L g)) (va_Qi (fun (r9 : Int32) (u9 : St) => r9 = iI (if mMe (em g) p w t then 1 else 0) ∧ u9 = g) (fun u t => HS L u t) (Af L)) 0 0 (Af L) := by
  refine ct_mk (by decide +kernel) (Nat.le_of_ble_eq_true rfl) ?_
  intro pp ee ss mm bel mth cx C hr hlk
  show V pp l ee { frames := 1, cells := 0, slots := 0, locals := 26 } ss mm ([.int (iI p), .int (iI w), .int (iI t), .ref (adr L 14 0 0), .ref (adr L 15 0 0), .ref (adr L 16 0 0), .ref (adr L 17 0 0)]).toArray bel mth cx 13 L (HH L g) 0 0 _ 0 [(0, .int (iI p)), (1, .int (iI w)), (2, .int (iI t)), (3, .ref (adr L 14 0 0)), (4, .ref (adr L 15 0 0)), (5, .ref (adr L 16 0 0)), (6, .ref (adr L 17 0 0))] []
  obtain ⟨qS0, qS1, qS2, qB0, qB1, qCl, qN, qPl, qEc⟩ := wq_s hq
  have q6 := hq.2.1
  have hpl := qPl p hp.1 hp.2
  have heR := wq_eR hq (by decide)
  have me := me_iff hq hp ht.1 hw
  have hd0 : 1 ≤ lDl g (g 15 0 0 (6 * p)) 0 ∧ lDl g (g 15 0 0 (6 * p)) 0 ≤ 100 := dly_in (by omega) qS1 qS2 hpl
  have hd1 : 1 ≤ lDl g (g 15 0 0 (6 * p)) 1 ∧ lDl g (g 15 0 0 (6 * p)) 1 ≤ 100 := dly_in (by omega) qS1 qS2 hpl
  have hdw : 1 ≤ lDl g (g 15 0 0 (6 * p)) w ∧ lDl g (g 15 0 0 (6 * p)) w ≤ 100 := dly_in (by omega) qS1 qS2 hpl
  have hco := lCo_in g (g 15 0 0 (6 * p)) (g 14 0 0 3 + (t + lDl g (g 15 0 0 (6 * p)) w))
  have hml : 0 ≤ (t + lDl g (g 15 0 0 (6 * p)) w) * g 14 0 0 5 ∧ (t + lDl g (g 15 0 0 (6 * p)) w) * g 14 0 0 5 ≤ 161 * 9 := ⟨Int.mul_nonneg (by omega) (by omega), Int.mul_le_mul (by omega) (by omega) (by omega) (by omega)⟩
  have hmm := emod_in (x := (t + lDl g (g 15 0 0 (6 * p)) w) * g 14 0 0 5) (b := 2 * g 14 0 0 0) (by omega)
  have hb4 : 0 ≤ lmG g (((t + lDl g (g 15 0 0 (6 * p)) w) * g 14 0 0 5) % (2 * g 14 0 0 0)).toNat 14 0 0 4 ∧ lmG g (((t + lDl g (g 15 0 0 (6 * p)) w) * g 14 0 0 5) % (2 * g 14 0 0 0)).toNat 14 0 0 4 ≤ g 14 0 0 0 := by rw [lm_4]; exact (bwalk_in (last := g 14 0 0 0) (by omega) (q := (g 14 0 0 4, (g 14 0 0 6 + 1) / 2)) qB0 (show (g 14 0 0 6 + 1) / 2 = 0 ∨ (g 14 0 0 6 + 1) / 2 = 1 by omega) _).1
  refine v_aload (pc := 0) C 4 rfl dL_meets_0 ?_
  refine v_bipush (pc := 2) C rfl dL_meets_2 ?_
  refine v_iload_n (pc := 4) C 0 rfl rfl dL_meets_4 ?_
  refine v_imul (pc := 5) C dL_meets_5 ?_
  refine al_15 (pc := 6) C ⟨by (first | assumption | omega | (unfold rg; omega)), by (first | assumption | omega | (unfold rg; omega))⟩ dL_meets_6 (g 15 0 0 (6 * p)) (rfl) ?_
  refine v_istore (pc := 7) C [(7, .int (iI (g 15 0 0 (6 * p)))), (0, .int (iI p)), (1, .int (iI w)), (2, .int (iI t)), (3, .ref (adr L 14 0 0)), (4, .ref (adr L 15 0 0)), (5, .ref (adr L 16 0 0)), (6, .ref (adr L 17 0 0))] (by decide) rfl dL_meets_7 ?_
  refine v_iload_n (pc := 9) C 3 rfl rfl dL_meets_9 ?_
  refine v_iload (pc := 10) C 0 rfl dL_meets_10 ?_
  refine v_iload_n (pc := 12) C 2 rfl rfl dL_meets_12 ?_
  refine v_aload_n (pc := 13) C 4 rfl rfl dL_meets_13 ?_
  refine v_calliS (pc := 14) C cw_RL_67 (ct_L_delay l L g (g 15 0 0 (6 * p)) w (by exact qS0) (by exact qS1) (by exact qS2) (by exact hpl) (by omega)) ⟨Nat.le_of_ble_eq_true rfl, Nat.le_of_ble_eq_true rfl⟩ rfl (Nat.le_of_ble_eq_true rfl) ⟨Nat.le_of_ble_eq_true rfl, Nat.le_of_ble_eq_true rfl⟩ rfl dL_meets_14 (fun r9 u9 hP_1 => ?_)
  obtain ⟨hP_1, hP_1b⟩ := hP_1
  rw [hP_1, hP_1b]
  clear hP_1 hP_1b r9 u9
  refine v_iadd (pc := 17) C dL_meets_17 ?_
  refine v_istore (pc := 18) C [(8, .int (iI (t + (lDl g (g 15 0 0 (6 * p)) w)))), (7, .int (iI (g 15 0 0 (6 * p)))), (0, .int (iI p)), (1, .int (iI w)), (2, .int (iI t)), (3, .ref (adr L 14 0 0)), (4, .ref (adr L 15 0 0)), (5, .ref (adr L 16 0 0)), (6, .ref (adr L 17 0 0))] (by decide) rfl dL_meets_18 ?_
  refine v_iload (pc := 20) C 1 rfl dL_meets_20 ?_
  refine v_iconst (pc := 22) C dL_meets_22 ?_
  refine v_aload_n (pc := 23) C 5 rfl rfl dL_meets_23 ?_
  refine v_calliS (pc := 24) C cw_RL_67 (ct_L_delay l L g (g 15 0 0 (6 * p)) 0 (by exact qS0) (by exact qS1) (by exact qS2) (by exact hpl) (by omega)) ⟨Nat.le_of_ble_eq_true rfl, Nat.le_of_ble_eq_true rfl⟩ rfl (Nat.le_of_ble_eq_true rfl) ⟨Nat.le_of_ble_eq_true rfl, Nat.le_of_ble_eq_true rfl⟩ rfl dL_meets_24 (fun r9 u9 hP_2 => ?_)
  obtain ⟨hP_2, hP_2b⟩ := hP_2
  rw [hP_2, hP_2b]
  clear hP_2 hP_2b r9 u9
  refine v_iload (pc := 27) C 1 rfl dL_meets_27 ?_
  refine v_iconst (pc := 29) C dL_meets_29 ?_
  refine v_aload_n (pc := 30) C 5 rfl rfl dL_meets_30 ?_
  refine v_calliS (pc := 31) C cw_RL_67 (ct_L_delay l L g (g 15 0 0 (6 * p)) 1 (by exact qS0) (by exact qS1) (by exact qS2) (by exact hpl) (by omega)) ⟨Nat.le_of_ble_eq_true rfl, Nat.le_of_ble_eq_true rfl⟩ rfl (Nat.le_of_ble_eq_true rfl) ⟨Nat.le_of_ble_eq_true rfl, Nat.le_of_ble_eq_true rfl⟩ rfl dL_meets_31 (fun r9 u9 hP_3 => ?_)
  obtain ⟨hP_3, hP_3b⟩ := hP_3
  rw [hP_3, hP_3b]
  clear hP_3 hP_3b r9 u9
  refine v_icmp_eq (pc := 34) C 56 ⟨by (first | assumption | omega | (unfold rg; omega)), by (first | assumption | omega | (unfold rg; omega))⟩ ⟨by (first | assumption | omega | (unfold rg; omega)), by (first | assumption | omega | (unfold rg; omega))⟩ (by decide) dL_meets_34 (fun h34 => ?_) (fun h34 => ?_)
  · skip
    refine v_iconst (pc := 56) C dL_meets_56 ?_
    refine v_goto (pc := 57) C 61 (by decide) dL_meets_57 ?_
    refine v_istore (pc := 61) C [(9, .int (iI 1)), (8, .int (iI (t + (lDl g (g 15 0 0 (6 * p)) w)))), (7, .int (iI (g 15 0 0 (6 * p)))), (0, .int (iI p)), (1, .int (iI w)), (2, .int (iI t)), (3, .ref (adr L 14 0 0)), (4, .ref (adr L 15 0 0)), (5, .ref (adr L 16 0 0)), (6, .ref (adr L 17 0 0))] (by decide) rfl dL_meets_61 ?_
    refine v_aload_n (pc := 63) C 6 rfl rfl dL_meets_63 ?_
    refine v_iconst (pc := 64) C dL_meets_64 ?_
    refine al_14 (pc := 65) C ⟨by (first | assumption | omega | (unfold rg; omega)), by (first | assumption | omega | (unfold rg; omega))⟩ dL_meets_65 (g 14 0 0 4) (rfl) ?_
    refine v_istore (pc := 66) C [(10, .int (iI (g 14 0 0 4))), (9, .int (iI 1)), (8, .int (iI (t + (lDl g (g 15 0 0 (6 * p)) w)))), (7, .int (iI (g 15 0 0 (6 * p)))), (0, .int (iI p)), (1, .int (iI w)), (2, .int (iI t)), (3, .ref (adr L 14 0 0)), (4, .ref (adr L 15 0 0)), (5, .ref (adr L 16 0 0)), (6, .ref (adr L 17 0 0))] (by decide) rfl dL_meets_66 ?_
    refine v_aload_n (pc := 68) C 7 rfl rfl dL_meets_68 ?_
    refine v_bipush (pc := 69) C rfl dL_meets_69 ?_
    refine al_14 (pc := 71) C ⟨by (first | assumption | omega | (unfold rg; omega)), by (first | assumption | omega | (unfold rg; omega))⟩ dL_meets_71 (g 14 0 0 6) (rfl) ?_
    refine v_istore (pc := 72) C [(11, .int (iI (g 14 0 0 6))), (10, .int (iI (g 14 0 0 4))), (9, .int (iI 1)), (8, .int (iI (t + (lDl g (g 15 0 0 (6 * p)) w)))), (7, .int (iI (g 15 0 0 (6 * p)))), (0, .int (iI p)), (1, .int (iI w)), (2, .int (iI t)), (3, .ref (adr L 14 0 0)), (4, .ref (adr L 15 0 0)), (5, .ref (adr L 16 0 0)), (6, .ref (adr L 17 0 0))] (by decide) rfl dL_meets_72 ?_
    refine v_iload (pc := 74) C 3 rfl dL_meets_74 ?_
    refine v_aload_n (pc := 76) C 8 rfl rfl dL_meets_76 ?_
    refine v_iconst (pc := 77) C dL_meets_77 ?_
    refine al_14 (pc := 78) C ⟨by (first | assumption | omega | (unfold rg; omega)), by (first | assumption | omega | (unfold rg; omega))⟩ dL_meets_78 (g 14 0 0 5) (rfl) ?_
    refine v_imul (pc := 79) C dL_meets_79 ?_
    refine v_iconst (pc := 80) C dL_meets_80 ?_
    refine v_aload_n (pc := 81) C 8 rfl rfl dL_meets_81 ?_
    refine v_iconst (pc := 82) C dL_meets_82 ?_
    refine al_14 (pc := 83) C ⟨by (first | assumption | omega | (unfold rg; omega)), by (first | assumption | omega | (unfold rg; omega))⟩ dL_meets_83 (g 14 0 0 0) (rfl) ?_
    refine v_imul (pc := 84) C dL_meets_84 ?_
    refine v_irem (pc := 85) C (⟨⟨by omega, by omega⟩, ⟨by omega, by omega⟩, by omega, by omega⟩) dL_meets_85 ?_
    refine v_aload_n (pc := 86) C 8 rfl rfl dL_meets_86 ?_
    refine v_callvS (pc := 87) C cw_RL_75 (ct_L_moves l L g (((t + (lDl g (g 15 0 0 (6 * p)) w)) * (g 14 0 0 5)) % (2 * (g 14 0 0 0))) (by omega) (by exact qS0) (by exact qB0) (by exact q6)) ⟨Nat.le_of_ble_eq_true rfl, Nat.le_of_ble_eq_true rfl⟩ rfl (Nat.le_of_ble_eq_true rfl) ⟨Nat.le_of_ble_eq_true rfl, Nat.le_of_ble_eq_true rfl⟩ rfl dL_meets_87 (fun u9 hP_4 => ?_)
    rw [hP_4]
    clear hP_4 u9
    refine v_aload_n (pc := 90) C 8 rfl rfl dL_meets_90 ?_
    refine v_iconst (pc := 91) C dL_meets_91 ?_
    refine al_14 (pc := 92) C ⟨by (first | assumption | omega | (unfold rg; omega)), by (first | assumption | omega | (unfold rg; omega))⟩ dL_meets_92 ((lmG g (((t + (lDl g (g 15 0 0 (6 * p)) w)) * (g 14 0 0 5)) % (2 * (g 14 0 0 0))).toNat) 14 0 0 4) (rfl) ?_
    refine v_iload (pc := 93) C 4 rfl dL_meets_93 ?_
    refine v_icmp_ne (pc := 95) C 102 ⟨by (first | assumption | omega | (unfold rg; omega)), by (first | assumption | omega | (unfold rg; omega))⟩ ⟨by (first | assumption | omega | (unfold rg; omega)), by (first | assumption | omega | (unfold rg; omega))⟩ (by decide) dL_meets_95 (fun h95 => ?_) (fun h95 => ?_)
    · skip
      refine v_iconst (pc := 102) C dL_meets_102 ?_
      refine v_istore (pc := 103) C [(12, .int (iI 0)), (11, .int (iI (g 14 0 0 6))), (10, .int (iI (g 14 0 0 4))), (9, .int (iI 1)), (8, .int (iI (t + (lDl g (g 15 0 0 (6 * p)) w)))), (7, .int (iI (g 15 0 0 (6 * p)))), (0, .int (iI p)), (1, .int (iI w)), (2, .int (iI t)), (3, .ref (adr L 14 0 0)), (4, .ref (adr L 15 0 0)), (5, .ref (adr L 16 0 0)), (6, .ref (adr L 17 0 0))] (by decide) rfl dL_meets_103 ?_
      refine v_aload_n (pc := 105) C 9 rfl rfl dL_meets_105 ?_
      refine v_iconst (pc := 106) C dL_meets_106 ?_
      refine v_iload (pc := 107) C 2 rfl dL_meets_107 ?_
      refine as_14 (pc := 109) C ⟨by (first | assumption | omega | (unfold rg; omega)), by (first | assumption | omega | (unfold rg; omega))⟩ dL_meets_109 ?_
      refine v_aload_n (pc := 110) C 9 rfl rfl dL_meets_110 ?_
      refine v_bipush (pc := 111) C rfl dL_meets_111 ?_
      refine v_iload (pc := 113) C 1 rfl dL_meets_113 ?_
      refine as_14 (pc := 115) C ⟨by (first | assumption | omega | (unfold rg; omega)), by (first | assumption | omega | (unfold rg; omega))⟩ dL_meets_115 ?_
      refine v_iload (pc := 116) C 0 rfl dL_meets_116 ?_
      refine v_if_eq (pc := 118) C 130 ⟨by (first | assumption | omega | (unfold rg; omega)), by (first | assumption | omega | (unfold rg; omega))⟩ (by decide) dL_meets_118 (fun h118 => ?_) (fun h118 => ?_)
      · skip
        refine v_iconst (pc := 130) C dL_meets_130 ?_
        exact v_zret (pc := 131) C hr hlk (by first | assumption | omega | (unfold rg; omega)) (⟨congrArg iI (by first | rw [if_pos (me.mpr ⟨by omega, by omega⟩)] | rw [if_neg (fun hx => by have := me.mp hx; omega)]), by exact lm_back g _⟩) dL_meets_131
      · skip
        exfalso; omega
    · skip
      refine v_iconst (pc := 98) C dL_meets_98 ?_
      refine v_goto (pc := 99) C 103 (by decide) dL_meets_99 ?_
      refine v_istore (pc := 103) C [(12, .int (iI 1)), (11, .int (iI (g 14 0 0 6))), (10, .int (iI (g 14 0 0 4))), (9, .int (iI 1)), (8, .int (iI (t + (lDl g (g 15 0 0 (6 * p)) w)))), (7, .int (iI (g 15 0 0 (6 * p)))), (0, .int (iI p)), (1, .int (iI w)), (2, .int (iI t)), (3, .ref (adr L 14 0 0)), (4, .ref (adr L 15 0 0)), (5, .ref (adr L 16 0 0)), (6, .ref (adr L 17 0 0))] (by decide) rfl dL_meets_103 ?_
      refine v_aload_n (pc := 105) C 9 rfl rfl dL_meets_105 ?_
      refine v_iconst (pc := 106) C dL_meets_106 ?_
      refine v_iload (pc := 107) C 2 rfl dL_meets_107 ?_
      refine as_14 (pc := 109) C ⟨by (first | assumption | omega | (unfold rg; omega)), by (first | assumption | omega | (unfold rg; omega))⟩ dL_meets_109 ?_
      refine v_aload_n (pc := 110) C 9 rfl rfl dL_meets_110 ?_
      refine v_bipush (pc := 111) C rfl dL_meets_111 ?_
      refine v_iload (pc := 113) C 1 rfl dL_meets_113 ?_
      refine as_14 (pc := 115) C ⟨by (first | assumption | omega | (unfold rg; omega)), by (first | assumption | omega | (unfold rg; omega))⟩ dL_meets_115 ?_
      refine v_iload (pc := 116) C 0 rfl dL_meets_116 ?_
      refine v_if_eq (pc := 118) C 130 ⟨by (first | assumption | omega | (unfold rg; omega)), by (first | assumption | omega | (unfold rg; omega))⟩ (by decide) dL_meets_118 (fun h118 => ?_) (fun h118 => ?_)
      · skip
        exfalso; omega
      · skip
        refine v_iload (pc := 121) C 3 rfl dL_meets_121 ?_
        refine v_if_ne (pc := 123) C 130 ⟨by (first | assumption | omega | (unfold rg; omega)), by (first | assumption | omega | (unfold rg; omega))⟩ (by decide) dL_meets_123 (fun h123 => ?_) (fun h123 => ?_)
        · skip
          refine v_iconst (pc := 130) C dL_meets_130 ?_
          exact v_zret (pc := 131) C hr hlk (by first | assumption | omega | (unfold rg; omega)) (⟨congrArg iI (by first | rw [if_pos (me.mpr ⟨by omega, by omega⟩)] | rw [if_neg (fun hx => by have := me.mp hx; omega)]), by exact lm_back g _⟩) dL_meets_131
        · skip
          exfalso; omega
  · skip
    refine v_iload (pc := 37) C 1 rfl dL_meets_37 ?_
    refine v_aload_n (pc := 39) C 5 rfl rfl dL_meets_39 ?_
    refine v_iconst (pc := 40) C dL_meets_40 ?_
    refine al_14 (pc := 41) C ⟨by (first | assumption | omega | (unfold rg; omega)), by (first | assumption | omega | (unfold rg; omega))⟩ dL_meets_41 (g 14 0 0 3) (rfl) ?_
    refine v_iload (pc := 42) C 0 rfl dL_meets_42 ?_
    refine v_iadd (pc := 44) C dL_meets_44 ?_
    refine v_aload_n (pc := 45) C 5 rfl rfl dL_meets_45 ?_
    refine v_aload (pc := 46) C 7 rfl dL_meets_46 ?_
    refine v_aload (pc := 48) C 8 rfl dL_meets_48 ?_
    refine v_calliS (pc := 50) C cw_RL_71 (ct_L_coming l L g (g 15 0 0 (6 * p)) ((g 14 0 0 3) + (t + (lDl g (g 15 0 0 (6 * p)) w))) (by exact heR) (by omega) (by omega)) ⟨Nat.le_of_ble_eq_true rfl, Nat.le_of_ble_eq_true rfl⟩ rfl (Nat.le_of_ble_eq_true rfl) ⟨Nat.le_of_ble_eq_true rfl, Nat.le_of_ble_eq_true rfl⟩ rfl dL_meets_50 (fun r9 u9 hP_5 => ?_)
    obtain ⟨hP_5, hP_5b⟩ := hP_5
    rw [hP_5, hP_5b]
    clear hP_5 hP_5b r9 u9
    refine v_if_le (pc := 53) C 60 ⟨by (first | assumption | omega | (unfold rg; omega)), by (first | assumption | omega | (unfold rg; omega))⟩ (by decide) dL_meets_53 (fun h53 => ?_) (fun h53 => ?_)
    · skip
      refine v_iconst (pc := 60) C dL_meets_60 ?_
      refine v_istore (pc := 61) C [(9, .int (iI 0)), (8, .int (iI (t + (lDl g (g 15 0 0 (6 * p)) w)))), (7, .int (iI (g 15 0 0 (6 * p)))), (0, .int (iI p)), (1, .int (iI w)), (2, .int (iI t)), (3, .ref (adr L 14 0 0)), (4, .ref (adr L 15 0 0)), (5, .ref (adr L 16 0 0)), (6, .ref (adr L 17 0 0))] (by decide) rfl dL_meets_61 ?_
      refine v_aload_n (pc := 63) C 6 rfl rfl dL_meets_63 ?_
      refine v_iconst (pc := 64) C dL_meets_64 ?_
      refine al_14 (pc := 65) C ⟨by (first | assumption | omega | (unfold rg; omega)), by (first | assumption | omega | (unfold rg; omega))⟩ dL_meets_65 (g 14 0 0 4) (rfl) ?_
      refine v_istore (pc := 66) C [(10, .int (iI (g 14 0 0 4))), (9, .int (iI 0)), (8, .int (iI (t + (lDl g (g 15 0 0 (6 * p)) w)))), (7, .int (iI (g 15 0 0 (6 * p)))), (0, .int (iI p)), (1, .int (iI w)), (2, .int (iI t)), (3, .ref (adr L 14 0 0)), (4, .ref (adr L 15 0 0)), (5, .ref (adr L 16 0 0)), (6, .ref (adr L 17 0 0))] (by decide) rfl dL_meets_66 ?_
      refine v_aload_n (pc := 68) C 7 rfl rfl dL_meets_68 ?_
      refine v_bipush (pc := 69) C rfl dL_meets_69 ?_
      refine al_14 (pc := 71) C ⟨by (first | assumption | omega | (unfold rg; omega)), by (first | assumption | omega | (unfold rg; omega))⟩ dL_meets_71 (g 14 0 0 6) (rfl) ?_
      refine v_istore (pc := 72) C [(11, .int (iI (g 14 0 0 6))), (10, .int (iI (g 14 0 0 4))), (9, .int (iI 0)), (8, .int (iI (t + (lDl g (g 15 0 0 (6 * p)) w)))), (7, .int (iI (g 15 0 0 (6 * p)))), (0, .int (iI p)), (1, .int (iI w)), (2, .int (iI t)), (3, .ref (adr L 14 0 0)), (4, .ref (adr L 15 0 0)), (5, .ref (adr L 16 0 0)), (6, .ref (adr L 17 0 0))] (by decide) rfl dL_meets_72 ?_
      refine v_iload (pc := 74) C 3 rfl dL_meets_74 ?_
      refine v_aload_n (pc := 76) C 8 rfl rfl dL_meets_76 ?_
      refine v_iconst (pc := 77) C dL_meets_77 ?_
      refine al_14 (pc := 78) C ⟨by (first | assumption | omega | (unfold rg; omega)), by (first | assumption | omega | (unfold rg; omega))⟩ dL_meets_78 (g 14 0 0 5) (rfl) ?_
      refine v_imul (pc := 79) C dL_meets_79 ?_
      refine v_iconst (pc := 80) C dL_meets_80 ?_
      refine v_aload_n (pc := 81) C 8 rfl rfl dL_meets_81 ?_
      refine v_iconst (pc := 82) C dL_meets_82 ?_
      refine al_14 (pc := 83) C ⟨by (first | assumption | omega | (unfold rg; omega)), by (first | assumption | omega | (unfold rg; omega))⟩ dL_meets_83 (g 14 0 0 0) (rfl) ?_
      refine v_imul (pc := 84) C dL_meets_84 ?_
      refine v_irem (pc := 85) C (⟨⟨by omega, by omega⟩, ⟨by omega, by omega⟩, by omega, by omega⟩) dL_meets_85 ?_
      refine v_aload_n (pc := 86) C 8 rfl rfl dL_meets_86 ?_
      refine v_callvS (pc := 87) C cw_RL_75 (ct_L_moves l L g (((t + (lDl g (g 15 0 0 (6 * p)) w)) * (g 14 0 0 5)) % (2 * (g 14 0 0 0))) (by omega) (by exact qS0) (by exact qB0) (by exact q6)) ⟨Nat.le_of_ble_eq_true rfl, Nat.le_of_ble_eq_true rfl⟩ rfl (Nat.le_of_ble_eq_true rfl) ⟨Nat.le_of_ble_eq_true rfl, Nat.le_of_ble_eq_true rfl⟩ rfl dL_meets_87 (fun u9 hP_6 => ?_)
      rw [hP_6]
      clear hP_6 u9
      refine v_aload_n (pc := 90) C 8 rfl rfl dL_meets_90 ?_
      refine v_iconst (pc := 91) C dL_meets_91 ?_
      refine al_14 (pc := 92) C ⟨by (first | assumption | omega | (unfold rg; omega)), by (first | assumption | omega | (unfold rg; omega))⟩ dL_meets_92 ((lmG g (((t + (lDl g (g 15 0 0 (6 * p)) w)) * (g 14 0 0 5)) % (2 * (g 14 0 0 0))).toNat) 14 0 0 4) (rfl) ?_
      refine v_iload (pc := 93) C 4 rfl dL_meets_93 ?_
      refine v_icmp_ne (pc := 95) C 102 ⟨by (first | assumption | omega | (unfold rg; omega)), by (first | assumption | omega | (unfold rg; omega))⟩ ⟨by (first | assumption | omega | (unfold rg; omega)), by (first | assumption | omega | (unfold rg; omega))⟩ (by decide) dL_meets_95 (fun h95 => ?_) (fun h95 => ?_)
      · skip
        refine v_iconst (pc := 102) C dL_meets_102 ?_
        refine v_istore (pc := 103) C [(12, .int (iI 0)), (11, .int (iI (g 14 0 0 6))), (10, .int (iI (g 14 0 0 4))), (9, .int (iI 0)), (8, .int (iI (t + (lDl g (g 15 0 0 (6 * p)) w)))), (7, .int (iI (g 15 0 0 (6 * p)))), (0, .int (iI p)), (1, .int (iI w)), (2, .int (iI t)), (3, .ref (adr L 14 0 0)), (4, .ref (adr L 15 0 0)), (5, .ref (adr L 16 0 0)), (6, .ref (adr L 17 0 0))] (by decide) rfl dL_meets_103 ?_
        refine v_aload_n (pc := 105) C 9 rfl rfl dL_meets_105 ?_
        refine v_iconst (pc := 106) C dL_meets_106 ?_
        refine v_iload (pc := 107) C 2 rfl dL_meets_107 ?_
        refine as_14 (pc := 109) C ⟨by (first | assumption | omega | (unfold rg; omega)), by (first | assumption | omega | (unfold rg; omega))⟩ dL_meets_109 ?_
        refine v_aload_n (pc := 110) C 9 rfl rfl dL_meets_110 ?_
        refine v_bipush (pc := 111) C rfl dL_meets_111 ?_
        refine v_iload (pc := 113) C 1 rfl dL_meets_113 ?_
        refine as_14 (pc := 115) C ⟨by (first | assumption | omega | (unfold rg; omega)), by (first | assumption | omega | (unfold rg; omega))⟩ dL_meets_115 ?_
        refine v_iload (pc := 116) C 0 rfl dL_meets_116 ?_
        refine v_if_eq (pc := 118) C 130 ⟨by (first | assumption | omega | (unfold rg; omega)), by (first | assumption | omega | (unfold rg; omega))⟩ (by decide) dL_meets_118 (fun h118 => ?_) (fun h118 => ?_)
        · skip
          refine v_iconst (pc := 130) C dL_meets_130 ?_
          exact v_zret (pc := 131) C hr hlk (by first | assumption | omega | (unfold rg; omega)) (⟨congrArg iI (by first | rw [if_pos (me.mpr ⟨by omega, by omega⟩)] | rw [if_neg (fun hx => by have := me.mp hx; omega)]), by exact lm_back g _⟩) dL_meets_131
        · skip
          exfalso; omega
      · skip
        refine v_iconst (pc := 98) C dL_meets_98 ?_
        refine v_goto (pc := 99) C 103 (by decide) dL_meets_99 ?_
        refine v_istore (pc := 103) C [(12, .int (iI 1)), (11, .int (iI (g 14 0 0 6))), (10, .int (iI (g 14 0 0 4))), (9, .int (iI 0)), (8, .int (iI (t + (lDl g (g 15 0 0 (6 * p)) w)))), (7, .int (iI (g 15 0 0 (6 * p)))), (0, .int (iI p)), (1, .int (iI w)), (2, .int (iI t)), (3, .ref (adr L 14 0 0)), (4, .ref (adr L 15 0 0)), (5, .ref (adr L 16 0 0)), (6, .ref (adr L 17 0 0))] (by decide) rfl dL_meets_103 ?_
        refine v_aload_n (pc := 105) C 9 rfl rfl dL_meets_105 ?_
        refine v_iconst (pc := 106) C dL_meets_106 ?_
        refine v_iload (pc := 107) C 2 rfl dL_meets_107 ?_
        refine as_14 (pc := 109) C ⟨by (first | assumption | omega | (unfold rg; omega)), by (first | assumption | omega | (unfold rg; omega))⟩ dL_meets_109 ?_
        refine v_aload_n (pc := 110) C 9 rfl rfl dL_meets_110 ?_
        refine v_bipush (pc := 111) C rfl dL_meets_111 ?_
        refine v_iload (pc := 113) C 1 rfl dL_meets_113 ?_
        refine as_14 (pc := 115) C ⟨by (first | assumption | omega | (unfold rg; omega)), by (first | assumption | omega | (unfold rg; omega))⟩ dL_meets_115 ?_
        refine v_iload (pc := 116) C 0 rfl dL_meets_116 ?_
        refine v_if_eq (pc := 118) C 130 ⟨by (first | assumption | omega | (unfold rg; omega)), by (first | assumption | omega | (unfold rg; omega))⟩ (by decide) dL_meets_118 (fun h118 => ?_) (fun h118 => ?_)
        · skip
          exfalso; omega
        · skip
          refine v_iload (pc := 121) C 3 rfl dL_meets_121 ?_
          refine v_if_ne (pc := 123) C 130 ⟨by (first | assumption | omega | (unfold rg; omega)), by (first | assumption | omega | (unfold rg; omega))⟩ (by decide) dL_meets_123 (fun h123 => ?_) (fun h123 => ?_)
          · skip
            exfalso; omega
          · skip
            refine v_iconst (pc := 126) C dL_meets_126 ?_
            refine v_goto (pc := 127) C 131 (by decide) dL_meets_127 ?_
            exact v_zret (pc := 131) C hr hlk (by first | assumption | omega | (unfold rg; omega)) (⟨congrArg iI (by first | rw [if_pos (me.mpr ⟨by omega, by omega⟩)] | rw [if_neg (fun hx => by have := me.mp hx; omega)]), by exact lm_back g _⟩) dL_meets_131
    · skip
      refine v_iconst (pc := 56) C dL_meets_56 ?_
      refine v_goto (pc := 57) C 61 (by decide) dL_meets_57 ?_
      refine v_istore (pc := 61) C [(9, .int (iI 1)), (8, .int (iI (t + (lDl g (g 15 0 0 (6 * p)) w)))), (7, .int (iI (g 15 0 0 (6 * p)))), (0, .int (iI p)), (1, .int (iI w)), (2, .int (iI t)), (3, .ref (adr L 14 0 0)), (4, .ref (adr L 15 0 0)), (5, .ref (adr L 16 0 0)), (6, .ref (adr L 17 0 0))] (by decide) rfl dL_meets_61 ?_
      refine v_aload_n (pc := 63) C 6 rfl rfl dL_meets_63 ?_
      refine v_iconst (pc := 64) C dL_meets_64 ?_
      refine al_14 (pc := 65) C ⟨by (first | assumption | omega | (unfold rg; omega)), by (first | assumption | omega | (unfold rg; omega))⟩ dL_meets_65 (g 14 0 0 4) (rfl) ?_
      refine v_istore (pc := 66) C [(10, .int (iI (g 14 0 0 4))), (9, .int (iI 1)), (8, .int (iI (t + (lDl g (g 15 0 0 (6 * p)) w)))), (7, .int (iI (g 15 0 0 (6 * p)))), (0, .int (iI p)), (1, .int (iI w)), (2, .int (iI t)), (3, .ref (adr L 14 0 0)), (4, .ref (adr L 15 0 0)), (5, .ref (adr L 16 0 0)), (6, .ref (adr L 17 0 0))] (by decide) rfl dL_meets_66 ?_
      refine v_aload_n (pc := 68) C 7 rfl rfl dL_meets_68 ?_
      refine v_bipush (pc := 69) C rfl dL_meets_69 ?_
      refine al_14 (pc := 71) C ⟨by (first | assumption | omega | (unfold rg; omega)), by (first | assumption | omega | (unfold rg; omega))⟩ dL_meets_71 (g 14 0 0 6) (rfl) ?_
      refine v_istore (pc := 72) C [(11, .int (iI (g 14 0 0 6))), (10, .int (iI (g 14 0 0 4))), (9, .int (iI 1)), (8, .int (iI (t + (lDl g (g 15 0 0 (6 * p)) w)))), (7, .int (iI (g 15 0 0 (6 * p)))), (0, .int (iI p)), (1, .int (iI w)), (2, .int (iI t)), (3, .ref (adr L 14 0 0)), (4, .ref (adr L 15 0 0)), (5, .ref (adr L 16 0 0)), (6, .ref (adr L 17 0 0))] (by decide) rfl dL_meets_72 ?_
      refine v_iload (pc := 74) C 3 rfl dL_meets_74 ?_
      refine v_aload_n (pc := 76) C 8 rfl rfl dL_meets_76 ?_
      refine v_iconst (pc := 77) C dL_meets_77 ?_
      refine al_14 (pc := 78) C ⟨by (first | assumption | omega | (unfold rg; omega)), by (first | assumption | omega | (unfold rg; omega))⟩ dL_meets_78 (g 14 0 0 5) (rfl) ?_
      refine v_imul (pc := 79) C dL_meets_79 ?_
      refine v_iconst (pc := 80) C dL_meets_80 ?_
      refine v_aload_n (pc := 81) C 8 rfl rfl dL_meets_81 ?_
      refine v_iconst (pc := 82) C dL_meets_82 ?_
      refine al_14 (pc := 83) C ⟨by (first | assumption | omega | (unfold rg; omega)), by (first | assumption | omega | (unfold rg; omega))⟩ dL_meets_83 (g 14 0 0 0) (rfl) ?_
      refine v_imul (pc := 84) C dL_meets_84 ?_
      refine v_irem (pc := 85) C (⟨⟨by omega, by omega⟩, ⟨by omega, by omega⟩, by omega, by omega⟩) dL_meets_85 ?_
      refine v_aload_n (pc := 86) C 8 rfl rfl dL_meets_86 ?_
      refine v_callvS (pc := 87) C cw_RL_75 (ct_L_moves l L g (((t + (lDl g (g 15 0 0 (6 * p)) w)) * (g 14 0 0 5)) % (2 * (g 14 0 0 0))) (by omega) (by exact qS0) (by exact qB0) (by exact q6)) ⟨Nat.le_of_ble_eq_true rfl, Nat.le_of_ble_eq_true rfl⟩ rfl (Nat.le_of_ble_eq_true rfl) ⟨Nat.le_of_ble_eq_true rfl, Nat.le_of_ble_eq_true rfl⟩ rfl dL_meets_87 (fun u9 hP_7 => ?_)
      rw [hP_7]
      clear hP_7 u9
      refine v_aload_n (pc := 90) C 8 rfl rfl dL_meets_90 ?_
      refine v_iconst (pc := 91) C dL_meets_91 ?_
      refine al_14 (pc := 92) C ⟨by (first | assumption | omega | (unfold rg; omega)), by (first | assumption | omega | (unfold rg; omega))⟩ dL_meets_92 ((lmG g (((t + (lDl g (g 15 0 0 (6 * p)) w)) * (g 14 0 0 5)) % (2 * (g 14 0 0 0))).toNat) 14 0 0 4) (rfl) ?_
      refine v_iload (pc := 93) C 4 rfl dL_meets_93 ?_
      refine v_icmp_ne (pc := 95) C 102 ⟨by (first | assumption | omega | (unfold rg; omega)), by (first | assumption | omega | (unfold rg; omega))⟩ ⟨by (first | assumption | omega | (unfold rg; omega)), by (first | assumption | omega | (unfold rg; omega))⟩ (by decide) dL_meets_95 (fun h95 => ?_) (fun h95 => ?_)
      · skip
        refine v_iconst (pc := 102) C dL_meets_102 ?_
        refine v_istore (pc := 103) C [(12, .int (iI 0)), (11, .int (iI (g 14 0 0 6))), (10, .int (iI (g 14 0 0 4))), (9, .int (iI 1)), (8, .int (iI (t + (lDl g (g 15 0 0 (6 * p)) w)))), (7, .int (iI (g 15 0 0 (6 * p)))), (0, .int (iI p)), (1, .int (iI w)), (2, .int (iI t)), (3, .ref (adr L 14 0 0)), (4, .ref (adr L 15 0 0)), (5, .ref (adr L 16 0 0)), (6, .ref (adr L 17 0 0))] (by decide) rfl dL_meets_103 ?_
        refine v_aload_n (pc := 105) C 9 rfl rfl dL_meets_105 ?_
        refine v_iconst (pc := 106) C dL_meets_106 ?_
        refine v_iload (pc := 107) C 2 rfl dL_meets_107 ?_
        refine as_14 (pc := 109) C ⟨by (first | assumption | omega | (unfold rg; omega)), by (first | assumption | omega | (unfold rg; omega))⟩ dL_meets_109 ?_
        refine v_aload_n (pc := 110) C 9 rfl rfl dL_meets_110 ?_
        refine v_bipush (pc := 111) C rfl dL_meets_111 ?_
        refine v_iload (pc := 113) C 1 rfl dL_meets_113 ?_
        refine as_14 (pc := 115) C ⟨by (first | assumption | omega | (unfold rg; omega)), by (first | assumption | omega | (unfold rg; omega))⟩ dL_meets_115 ?_
        refine v_iload (pc := 116) C 0 rfl dL_meets_116 ?_
        refine v_if_eq (pc := 118) C 130 ⟨by (first | assumption | omega | (unfold rg; omega)), by (first | assumption | omega | (unfold rg; omega))⟩ (by decide) dL_meets_118 (fun h118 => ?_) (fun h118 => ?_)
        · skip
          refine v_iconst (pc := 130) C dL_meets_130 ?_
          exact v_zret (pc := 131) C hr hlk (by first | assumption | omega | (unfold rg; omega)) (⟨congrArg iI (by first | rw [if_pos (me.mpr ⟨by omega, by omega⟩)] | rw [if_neg (fun hx => by have := me.mp hx; omega)]), by exact lm_back g _⟩) dL_meets_131
        · skip
          exfalso; omega
      · skip
        refine v_iconst (pc := 98) C dL_meets_98 ?_
        refine v_goto (pc := 99) C 103 (by decide) dL_meets_99 ?_
        refine v_istore (pc := 103) C [(12, .int (iI 1)), (11, .int (iI (g 14 0 0 6))), (10, .int (iI (g 14 0 0 4))), (9, .int (iI 1)), (8, .int (iI (t + (lDl g (g 15 0 0 (6 * p)) w)))), (7, .int (iI (g 15 0 0 (6 * p)))), (0, .int (iI p)), (1, .int (iI w)), (2, .int (iI t)), (3, .ref (adr L 14 0 0)), (4, .ref (adr L 15 0 0)), (5, .ref (adr L 16 0 0)), (6, .ref (adr L 17 0 0))] (by decide) rfl dL_meets_103 ?_
        refine v_aload_n (pc := 105) C 9 rfl rfl dL_meets_105 ?_
        refine v_iconst (pc := 106) C dL_meets_106 ?_
        refine v_iload (pc := 107) C 2 rfl dL_meets_107 ?_
        refine as_14 (pc := 109) C ⟨by (first | assumption | omega | (unfold rg; omega)), by (first | assumption | omega | (unfold rg; omega))⟩ dL_meets_109 ?_
        refine v_aload_n (pc := 110) C 9 rfl rfl dL_meets_110 ?_
        refine v_bipush (pc := 111) C rfl dL_meets_111 ?_
        refine v_iload (pc := 113) C 1 rfl dL_meets_113 ?_
        refine as_14 (pc := 115) C ⟨by (first | assumption | omega | (unfold rg; omega)), by (first | assumption | omega | (unfold rg; omega))⟩ dL_meets_115 ?_
        refine v_iload (pc := 116) C 0 rfl dL_meets_116 ?_
        refine v_if_eq (pc := 118) C 130 ⟨by (first | assumption | omega | (unfold rg; omega)), by (first | assumption | omega | (unfold rg; omega))⟩ (by decide) dL_meets_118 (fun h118 => ?_) (fun h118 => ?_)
        · skip
          exfalso; omega
        · skip
          refine v_iload (pc := 121) C 3 rfl dL_meets_121 ?_
          refine v_if_ne (pc := 123) C 130 ⟨by (first | assumption | omega | (unfold rg; omega)), by (first | assumption | omega | (unfold rg; omega))⟩ (by decide) dL_meets_123 (fun h123 => ?_) (fun h123 => ?_)
          · skip
            refine v_iconst (pc := 130) C dL_meets_130 ?_
            exact v_zret (pc := 131) C hr hlk (by first | assumption | omega | (unfold rg; omega)) (⟨congrArg iI (by first | rw [if_pos (me.mpr ⟨by omega, by omega⟩)] | rw [if_neg (fun hx => by have := me.mp hx; omega)]), by exact lm_back g _⟩) dL_meets_131
          · skip
            exfalso; omega
set_option maxHeartbeats 4000000 in
set_option maxRecDepth 100000 in
theorem ct_L_areEchoes (l : Launch) (L : Lay) (g : St) (hq : wq g 1) (hw : wf g 0 1) (hT : tieS g 0 (em g)) : Met l yL_areEchoes (.code yL_areEchoes cL_areEchoes 10 (some .boolean) :: wsL_law) { frames := 7, cells := 0, slots := 0, locals := 153 } (va_Pc [.ref (adr L 0 0 0), .ref (adr L 14 0 0), .ref (adr L 16 0 0), .ref (adr L 17 0 0)] (HS L g)) (va_Qi (fun (r9 : Int32) (u9 : St) => r9 = iI 1 ∧ u9 = g) (fun u t => HS L u t) (Af L)) 0 0 (Af L) := by
  refine ct_mk (by decide +kernel) (Nat.le_of_ble_eq_true rfl) ?_
  intro pp ee ss mm bel mth cx C hr hlk
  show V pp l ee { frames := 7, cells := 0, slots := 0, locals := 153 } ss mm ([.ref (adr L 0 0 0), .ref (adr L 14 0 0), .ref (adr L 16 0 0), .ref (adr L 17 0 0)]).toArray bel mth cx 10 L (HH L g) 0 0 _ 0 [(0, .ref (adr L 0 0 0)), (1, .ref (adr L 14 0 0)), (2, .ref (adr L 16 0 0)), (3, .ref (adr L 17 0 0))] []
  obtain ⟨qS0, qS1, qS2, qB0, qB1, qCl, qN, qPl, qEc⟩ := wq_s hq
  have heR := wq_eR hq (by decide)
  have hn9 := tieS_n hw hT
  rw [em_q (by decide) (by decide)] at hn9
  have e9 := em_q (g := g) (x := 9) (by decide) (by decide)
  refine v_aload_n (pc := 0) C 1 rfl rfl dL_areEchoes_0 ?_
  refine v_iconst (pc := 1) C dL_areEchoes_1 ?_
  refine al_14 (pc := 2) C ⟨by (first | assumption | omega | (unfold rg; omega)), by (first | assumption | omega | (unfold rg; omega))⟩ dL_areEchoes_2 (g 14 0 0 3) (rfl) ?_
  refine v_istore (pc := 3) C [(4, .int (iI (g 14 0 0 3))), (0, .ref (adr L 0 0 0)), (1, .ref (adr L 14 0 0)), (2, .ref (adr L 16 0 0)), (3, .ref (adr L 17 0 0))] (by decide) rfl dL_areEchoes_3 ?_
  refine v_iconst (pc := 5) C dL_areEchoes_5 ?_
  refine v_istore (pc := 6) C [(5, .int (iI (-1))), (4, .int (iI (g 14 0 0 3))), (0, .ref (adr L 0 0 0)), (1, .ref (adr L 14 0 0)), (2, .ref (adr L 16 0 0)), (3, .ref (adr L 17 0 0))] (by decide) rfl dL_areEchoes_6 ?_
  refine v_iconst (pc := 8) C dL_areEchoes_8 ?_
  refine v_istore (pc := 9) C [(6, .int (iI 0)), (5, .int (iI (-1))), (4, .int (iI (g 14 0 0 3))), (0, .ref (adr L 0 0 0)), (1, .ref (adr L 14 0 0)), (2, .ref (adr L 16 0 0)), (3, .ref (adr L 17 0 0))] (by decide) rfl dL_areEchoes_9 ?_
  have lb11 : ∀ (n9 : Nat) (r : Int) (a : Int) (b : Int), (0 ≤ r ∧ r ≤ g 14 0 0 9) → (0 ≤ a ∧ a ≤ 200000) → (-1 ≤ b ∧ b < 24) → (rkI g r a b) → (r = g 14 0 0 9 → mQu (em g) = a) → (g 14 0 0 9 - r).toNat < n9 → V pp l ee { frames := 7, cells := 0, slots := 0, locals := 153 } ss mm ([.ref (adr L 0 0 0), .ref (adr L 14 0 0), .ref (adr L 16 0 0), .ref (adr L 17 0 0)]).toArray bel mth cx 10 L (HH L g) 0 0 (MQ bel (va_Qi (fun (r9 : Int32) (u9 : St) => r9 = iI 1 ∧ u9 = g) (fun u t => HS L u t) (Af L)) ([.ref (adr L 0 0 0), .ref (adr L 14 0 0), .ref (adr L 16 0 0), .ref (adr L 17 0 0)]).toArray ss 0 0 (Af L)) 11 [(0, .ref (adr L 0 0 0)), (1, .ref (adr L 14 0 0)), (2, .ref (adr L 16 0 0)), (3, .ref (adr L 17 0 0)), (4, .int (iI a)), (5, .int (iI b)), (6, .int (iI r))] [] := by
    intro n9
    induction n9 with
    | zero => intro r a b hr ha hb hI hqu hm9; exact absurd hm9 (Nat.not_lt_zero _)
    | succ n9 ih9 =>
      intro r a b hr ha hb hI hqu hm9
      have ih11 := ih9
      refine v_iload (pc := 11) C 6 rfl dL_areEchoes_11 ?_
      refine v_aload_n (pc := 13) C 1 rfl rfl dL_areEchoes_13 ?_
      refine v_bipush (pc := 14) C rfl dL_areEchoes_14 ?_
      refine al_14 (pc := 16) C ⟨by (first | assumption | omega | (unfold rg; omega)), by (first | assumption | omega | (unfold rg; omega))⟩ dL_areEchoes_16 (g 14 0 0 9) (rfl) ?_
      refine v_icmp_ge (pc := 17) C 262 ⟨by (first | assumption | omega | (unfold rg; omega)), by (first | assumption | omega | (unfold rg; omega))⟩ ⟨by (first | assumption | omega | (unfold rg; omega)), by (first | assumption | omega | (unfold rg; omega))⟩ (by decide) dL_areEchoes_17 (fun h17 => ?_) (fun h17 => ?_)
      · skip
        have hrn : r = g 14 0 0 9 := by omega
        have tq : cqu g = a - g 14 0 0 3 := by rw [qu_tie hw hT.1, hqu hrn, em_q (by decide) (by decide)]
        have tn : ecN g 0 (g 14 0 0 9) 0 = -1 := by unfold ecN; rw [if_pos (Or.inr (by omega))]
        have tc : ctN g 4 = g 14 0 0 9 := by unfold ctN nbN; rw [if_neg (by decide), if_neg (by decide), if_neg (by decide), if_neg (by decide), if_neg (by decide), if_pos rfl]; exact hn9
        refine v_aload_n (pc := 262) C 0 rfl rfl dL_areEchoes_262 ?_
        refine v_calliV (pc := 263) C cw_RL_123 rcv_0 (ct_X6_quietIn l L g (by first | assumption | omega | (unfold rg; omega))) ⟨Nat.le_of_ble_eq_true rfl, Nat.le_of_ble_eq_true rfl⟩ rfl (Nat.le_of_ble_eq_true rfl) ⟨Nat.le_of_ble_eq_true rfl, Nat.le_of_ble_eq_true rfl⟩ rfl dL_areEchoes_263 (fun r9 u9 hP_1 => ?_)
        obtain ⟨hP_1, hP_1b⟩ := hP_1
        rw [hP_1, hP_1b]
        clear hP_1 hP_1b r9 u9
        refine v_topi (b := cqu g) C (rfl) ?_
        refine v_iload (pc := 266) C 4 rfl dL_areEchoes_266 ?_
        refine v_aload_n (pc := 268) C 1 rfl rfl dL_areEchoes_268 ?_
        refine v_iconst (pc := 269) C dL_areEchoes_269 ?_
        refine al_14 (pc := 270) C ⟨by (first | assumption | omega | (unfold rg; omega)), by (first | assumption | omega | (unfold rg; omega))⟩ dL_areEchoes_270 (g 14 0 0 3) (rfl) ?_
        refine v_isub (pc := 271) C dL_areEchoes_271 ?_
        refine v_icmp_ne (pc := 272) C 304 ⟨by (first | assumption | omega | (unfold rg; omega)), by (first | assumption | omega | (unfold rg; omega))⟩ ⟨by (first | assumption | omega | (unfold rg; omega)), by (first | assumption | omega | (unfold rg; omega))⟩ (by decide) dL_areEchoes_272 (fun h272 => ?_) (fun h272 => ?_)
        · skip
          exfalso; omega
        · skip
          refine v_aload_n (pc := 275) C 0 rfl rfl dL_areEchoes_275 ?_
          refine v_aload_n (pc := 276) C 1 rfl rfl dL_areEchoes_276 ?_
          refine v_bipush (pc := 277) C rfl dL_areEchoes_277 ?_
          refine al_14 (pc := 279) C ⟨by (first | assumption | omega | (unfold rg; omega)), by (first | assumption | omega | (unfold rg; omega))⟩ dL_areEchoes_279 (g 14 0 0 9) (rfl) ?_
          refine v_iconst (pc := 280) C dL_areEchoes_280 ?_
          refine v_calliH (pc := 281) C cwh_L_echoOf (ct_L_echoOf l L g (g 14 0 0 9) 0 (by first | assumption | omega | (unfold rg; omega)) (by first | assumption | omega | (unfold rg; omega)) (by first | assumption | omega | (unfold rg; omega)) (by first | assumption | omega | (unfold rg; omega))) ⟨Nat.le_of_ble_eq_true rfl, Nat.le_of_ble_eq_true rfl⟩ rfl (Nat.le_of_ble_eq_true rfl) ⟨Nat.le_of_ble_eq_true rfl, Nat.le_of_ble_eq_true rfl⟩ rfl dL_areEchoes_281 (fun r9 u9 hP_2 => ?_)
          obtain ⟨hP_2, hP_2b⟩ := hP_2
          rw [hP_2, hP_2b]
          clear hP_2 hP_2b r9 u9
          refine v_iconst (pc := 284) C dL_areEchoes_284 ?_
          refine v_icmp_ne (pc := 285) C 304 ⟨by (first | assumption | omega | (unfold rg; omega)), by (first | assumption | omega | (unfold rg; omega))⟩ ⟨by (first | assumption | omega | (unfold rg; omega)), by (first | assumption | omega | (unfold rg; omega))⟩ (by decide) dL_areEchoes_285 (fun h285 => ?_) (fun h285 => ?_)
          · skip
            exfalso; omega
          · skip
            refine v_aload_n (pc := 288) C 0 rfl rfl dL_areEchoes_288 ?_
            refine v_iconst (pc := 289) C dL_areEchoes_289 ?_
            refine v_calliH (pc := 290) C cwh_L_count (ct_L_count l L g 4 (by first | assumption | omega | (unfold rg; omega)) (by first | assumption | omega | (unfold rg; omega))) ⟨Nat.le_of_ble_eq_true rfl, Nat.le_of_ble_eq_true rfl⟩ rfl (Nat.le_of_ble_eq_true rfl) ⟨Nat.le_of_ble_eq_true rfl, Nat.le_of_ble_eq_true rfl⟩ rfl dL_areEchoes_290 (fun r9 u9 hP_3 => ?_)
            obtain ⟨hP_3, hP_3b⟩ := hP_3
            rw [hP_3, hP_3b]
            clear hP_3 hP_3b r9 u9
            refine v_aload_n (pc := 293) C 1 rfl rfl dL_areEchoes_293 ?_
            refine v_bipush (pc := 294) C rfl dL_areEchoes_294 ?_
            refine al_14 (pc := 296) C ⟨by (first | assumption | omega | (unfold rg; omega)), by (first | assumption | omega | (unfold rg; omega))⟩ dL_areEchoes_296 (g 14 0 0 9) (rfl) ?_
            refine v_icmp_ne (pc := 297) C 304 ⟨by (first | assumption | omega | (unfold rg; omega)), by (first | assumption | omega | (unfold rg; omega))⟩ ⟨by (first | assumption | omega | (unfold rg; omega)), by (first | assumption | omega | (unfold rg; omega))⟩ (by decide) dL_areEchoes_297 (fun h297 => ?_) (fun h297 => ?_)
            · skip
              exfalso; omega
            · skip
              refine v_iconst (pc := 300) C dL_areEchoes_300 ?_
              refine v_goto (pc := 301) C 305 (by decide) dL_areEchoes_301 ?_
              exact v_zret (pc := 305) C hr hlk (by first | assumption | omega | (unfold rg; omega)) (⟨rfl, rfl⟩) dL_areEchoes_305
      · skip
        refine v_iconst (pc := 20) C dL_areEchoes_20 ?_
        refine v_istore (pc := 21) C [(7, .int (iI (-1))), (0, .ref (adr L 0 0 0)), (1, .ref (adr L 14 0 0)), (2, .ref (adr L 16 0 0)), (3, .ref (adr L 17 0 0)), (4, .int (iI a)), (5, .int (iI b)), (6, .int (iI r))] (by decide) rfl dL_areEchoes_21 ?_
        refine v_iconst (pc := 23) C dL_areEchoes_23 ?_
        refine v_istore (pc := 24) C [(8, .int (iI 0)), (7, .int (iI (-1))), (0, .ref (adr L 0 0 0)), (1, .ref (adr L 14 0 0)), (2, .ref (adr L 16 0 0)), (3, .ref (adr L 17 0 0)), (4, .int (iI a)), (5, .int (iI b)), (6, .int (iI r))] (by decide) rfl dL_areEchoes_24 ?_
        have lb26 : ∀ (n9 : Nat) (x : Int) (k : Int), (0 ≤ x ∧ x ≤ g 14 0 0 9) → (-1 ≤ k ∧ k < x) → (slI g a b x k) → (g 14 0 0 9 - x).toNat < n9 → V pp l ee { frames := 7, cells := 0, slots := 0, locals := 153 } ss mm ([.ref (adr L 0 0 0), .ref (adr L 14 0 0), .ref (adr L 16 0 0), .ref (adr L 17 0 0)]).toArray bel mth cx 10 L (HH L g) 0 0 (MQ bel (va_Qi (fun (r9 : Int32) (u9 : St) => r9 = iI 1 ∧ u9 = g) (fun u t => HS L u t) (Af L)) ([.ref (adr L 0 0 0), .ref (adr L 14 0 0), .ref (adr L 16 0 0), .ref (adr L 17 0 0)]).toArray ss 0 0 (Af L)) 26 [(0, .ref (adr L 0 0 0)), (1, .ref (adr L 14 0 0)), (2, .ref (adr L 16 0 0)), (3, .ref (adr L 17 0 0)), (4, .int (iI a)), (5, .int (iI b)), (6, .int (iI r)), (7, .int (iI k)), (8, .int (iI x))] [] := by
          intro n9
          induction n9 with
          | zero => intro x k hx hk0 hsl hm9; exact absurd hm9 (Nat.not_lt_zero _)
          | succ n9 ih9 =>
            intro x k hx hk0 hsl hm9
            have ih26 := ih9
            refine v_iload (pc := 26) C 8 rfl dL_areEchoes_26 ?_
            refine v_aload_n (pc := 28) C 1 rfl rfl dL_areEchoes_28 ?_
            refine v_bipush (pc := 29) C rfl dL_areEchoes_29 ?_
            refine al_14 (pc := 31) C ⟨by (first | assumption | omega | (unfold rg; omega)), by (first | assumption | omega | (unfold rg; omega))⟩ dL_areEchoes_31 (g 14 0 0 9) (rfl) ?_
            refine v_icmp_ge (pc := 32) C 111 ⟨by (first | assumption | omega | (unfold rg; omega)), by (first | assumption | omega | (unfold rg; omega))⟩ ⟨by (first | assumption | omega | (unfold rg; omega)), by (first | assumption | omega | (unfold rg; omega))⟩ (by decide) dL_areEchoes_32 (fun h32 => ?_) (fun h32 => ?_)
            · skip
              have hk := sl_end hr.1 (by omega) hI (by rw [show g 14 0 0 9 = x by omega]; exact hsl)
              have hek := qEc k hk.1.1 hk.1.2
              have hek2 := heR.2 k hk.1.1 hk.1.2
              have hea := ea_L qN.1 hr.1 (by omega) hk.1.1 hk.1.2 hk.2
              have hee := em_e (g := g) hk.1.1
              have hco := lCo_in g (g 17 0 0 k / 100) (g 16 0 0 k / 2)
              have t0 : ecN g 0 r 0 = g 17 0 0 k / 10 % 10 := by rw [et_S hw hT hr.1 (by decide)]; unfold mEt; simp only []; rw [hea, if_neg (by omega)]; exact hee.1
              have t1 : ecN g 0 r 1 = g 17 0 0 k / 100 := by rw [et_S hw hT hr.1 (by decide)]; unfold mEt; simp only []; rw [hea, if_neg (by omega)]; exact hee.2.1
              have t2 : ecN g 0 r 2 = g 17 0 0 k % 10 := by rw [et_S hw hT hr.1 (by decide)]; unfold mEt; simp only []; rw [hea, if_neg (by omega)]; exact hee.2.2.1
              have t3 : ecN g 0 r 3 = g 16 0 0 k / 2 - g 14 0 0 3 := by rw [et_S hw hT hr.1 (by decide)]; unfold mEt; simp only []; rw [hea, if_neg (by omega), if_pos rfl, hee.2.2.2.1, em_q (by decide) (by decide)]
              have t4 : ecN g 0 r 4 = g 16 0 0 k % 2 := by rw [et_S hw hT hr.1 (by decide)]; unfold mEt; simp only []; rw [hea, if_neg (by omega), if_neg (by decide), if_pos rfl]; exact hee.2.2.2.2
              have t5 : ecN g 0 r 5 = if 1 < lCo g (g 17 0 0 k / 100) (g 16 0 0 k / 2) then 1 else 0 := by rw [et_S hw hT hr.1 (by decide)]; unfold mEt; simp only []; rw [hea, if_neg (by omega), if_neg (by decide), if_neg (by decide), if_pos rfl, hee.2.1, hee.2.2.2.1, lCo_em]
              refine v_iload (pc := 111) C 7 rfl dL_areEchoes_111 ?_
              refine v_if_ge (pc := 113) C 118 ⟨by (first | assumption | omega | (unfold rg; omega)), by (first | assumption | omega | (unfold rg; omega))⟩ (by decide) dL_areEchoes_113 (fun h113 => ?_) (fun h113 => ?_)
              · skip
                refine v_aload_n (pc := 118) C 2 rfl rfl dL_areEchoes_118 ?_
                refine v_iload (pc := 119) C 7 rfl dL_areEchoes_119 ?_
                refine al_16 (pc := 121) C ⟨by (first | assumption | omega | (unfold rg; omega)), by (first | assumption | omega | (unfold rg; omega))⟩ dL_areEchoes_121 (g 16 0 0 k) (rfl) ?_
                refine v_iconst (pc := 122) C dL_areEchoes_122 ?_
                refine v_idiv (pc := 123) C (⟨⟨by (first | assumption | omega | (unfold rg; omega)), by (first | assumption | omega | (unfold rg; omega))⟩, ⟨by (first | assumption | omega | (unfold rg; omega)), by (first | assumption | omega | (unfold rg; omega))⟩, by (first | assumption | omega | (unfold rg; omega)), by (first | assumption | omega | (unfold rg; omega))⟩) dL_areEchoes_123 ?_
                refine v_istore (pc := 124) C [(4, .int (iI ((g 16 0 0 k) / 2))), (0, .ref (adr L 0 0 0)), (1, .ref (adr L 14 0 0)), (2, .ref (adr L 16 0 0)), (3, .ref (adr L 17 0 0)), (5, .int (iI b)), (6, .int (iI r)), (7, .int (iI k)), (8, .int (iI x))] (by decide) rfl dL_areEchoes_124 ?_
                refine v_iload (pc := 126) C 7 rfl dL_areEchoes_126 ?_
                refine v_istore (pc := 128) C [(5, .int (iI k)), (4, .int (iI ((g 16 0 0 k) / 2))), (0, .ref (adr L 0 0 0)), (1, .ref (adr L 14 0 0)), (2, .ref (adr L 16 0 0)), (3, .ref (adr L 17 0 0)), (6, .int (iI r)), (7, .int (iI k)), (8, .int (iI x))] (by decide) rfl dL_areEchoes_128 ?_
                refine v_aload_n (pc := 130) C 5 rfl rfl dL_areEchoes_130 ?_
                refine v_iload (pc := 131) C 7 rfl dL_areEchoes_131 ?_
                refine al_17 (pc := 133) C ⟨by (first | assumption | omega | (unfold rg; omega)), by (first | assumption | omega | (unfold rg; omega))⟩ dL_areEchoes_133 (g 17 0 0 k) (rfl) ?_
                refine v_bipush (pc := 134) C rfl dL_areEchoes_134 ?_
                refine v_idiv (pc := 136) C (⟨⟨by (first | assumption | omega | (unfold rg; omega)), by (first | assumption | omega | (unfold rg; omega))⟩, ⟨by (first | assumption | omega | (unfold rg; omega)), by (first | assumption | omega | (unfold rg; omega))⟩, by (first | assumption | omega | (unfold rg; omega)), by (first | assumption | omega | (unfold rg; omega))⟩) dL_areEchoes_136 ?_
                refine v_iload (pc := 137) C 1 rfl dL_areEchoes_137 ?_
                refine v_aload_n (pc := 139) C 3 rfl rfl dL_areEchoes_139 ?_
                refine v_aload_n (pc := 140) C 4 rfl rfl dL_areEchoes_140 ?_
                refine v_aload_n (pc := 141) C 5 rfl rfl dL_areEchoes_141 ?_
                refine v_calliS (pc := 142) C cw_RL_71 (ct_L_coming l L g ((g 17 0 0 k) / 100) ((g 16 0 0 k) / 2) (by exact heR) (by omega) (by omega)) ⟨Nat.le_of_ble_eq_true rfl, Nat.le_of_ble_eq_true rfl⟩ rfl (Nat.le_of_ble_eq_true rfl) ⟨Nat.le_of_ble_eq_true rfl, Nat.le_of_ble_eq_true rfl⟩ rfl dL_areEchoes_142 (fun r9 u9 hP_4 => ?_)
                obtain ⟨hP_4, hP_4b⟩ := hP_4
                rw [hP_4, hP_4b]
                clear hP_4 hP_4b r9 u9
                refine v_iconst (pc := 145) C dL_areEchoes_145 ?_
                refine v_icmp_le (pc := 146) C 153 ⟨by (first | assumption | omega | (unfold rg; omega)), by (first | assumption | omega | (unfold rg; omega))⟩ ⟨by (first | assumption | omega | (unfold rg; omega)), by (first | assumption | omega | (unfold rg; omega))⟩ (by decide) dL_areEchoes_146 (fun h146 => ?_) (fun h146 => ?_)
                · skip
                  rw [if_neg (by omega)] at t5
                  skip
                  refine v_iconst (pc := 153) C dL_areEchoes_153 ?_
                  refine v_istore (pc := 154) C [(8, .int (iI 0)), (5, .int (iI k)), (4, .int (iI ((g 16 0 0 k) / 2))), (0, .ref (adr L 0 0 0)), (1, .ref (adr L 14 0 0)), (2, .ref (adr L 16 0 0)), (3, .ref (adr L 17 0 0)), (6, .int (iI r)), (7, .int (iI k))] (by decide) rfl dL_areEchoes_154 ?_
                  refine v_aload_n (pc := 156) C 3 rfl rfl dL_areEchoes_156 ?_
                  refine v_iload (pc := 157) C 7 rfl dL_areEchoes_157 ?_
                  refine v_iconst (pc := 159) C dL_areEchoes_159 ?_
                  refine v_calliH (pc := 160) C cwh_L_echoOf (ct_L_echoOf l L g r 0 (by first | assumption | omega | (unfold rg; omega)) (by first | assumption | omega | (unfold rg; omega)) (by first | assumption | omega | (unfold rg; omega)) (by first | assumption | omega | (unfold rg; omega))) ⟨Nat.le_of_ble_eq_true rfl, Nat.le_of_ble_eq_true rfl⟩ rfl (Nat.le_of_ble_eq_true rfl) ⟨Nat.le_of_ble_eq_true rfl, Nat.le_of_ble_eq_true rfl⟩ rfl dL_areEchoes_160 (fun r9 u9 hP_5 => ?_)
                  obtain ⟨hP_5, hP_5b⟩ := hP_5
                  rw [hP_5, hP_5b]
                  clear hP_5 hP_5b r9 u9
                  refine v_aload_n (pc := 163) C 6 rfl rfl dL_areEchoes_163 ?_
                  refine v_iload (pc := 164) C 8 rfl dL_areEchoes_164 ?_
                  refine al_17 (pc := 166) C ⟨by (first | assumption | omega | (unfold rg; omega)), by (first | assumption | omega | (unfold rg; omega))⟩ dL_areEchoes_166 (g 17 0 0 k) (rfl) ?_
                  refine v_bipush (pc := 167) C rfl dL_areEchoes_167 ?_
                  refine v_idiv (pc := 169) C (⟨⟨by (first | assumption | omega | (unfold rg; omega)), by (first | assumption | omega | (unfold rg; omega))⟩, ⟨by (first | assumption | omega | (unfold rg; omega)), by (first | assumption | omega | (unfold rg; omega))⟩, by (first | assumption | omega | (unfold rg; omega)), by (first | assumption | omega | (unfold rg; omega))⟩) dL_areEchoes_169 ?_
                  refine v_bipush (pc := 170) C rfl dL_areEchoes_170 ?_
                  refine v_irem (pc := 172) C (⟨⟨by (first | assumption | omega | (unfold rg; omega)), by (first | assumption | omega | (unfold rg; omega))⟩, ⟨by (first | assumption | omega | (unfold rg; omega)), by (first | assumption | omega | (unfold rg; omega))⟩, by (first | assumption | omega | (unfold rg; omega)), by (first | assumption | omega | (unfold rg; omega))⟩) dL_areEchoes_172 ?_
                  refine v_icmp_ne (pc := 173) C 254 ⟨by (first | assumption | omega | (unfold rg; omega)), by (first | assumption | omega | (unfold rg; omega))⟩ ⟨by (first | assumption | omega | (unfold rg; omega)), by (first | assumption | omega | (unfold rg; omega))⟩ (by decide) dL_areEchoes_173 (fun h173 => ?_) (fun h173 => ?_)
                  · skip
                    exfalso; omega
                  · skip
                    refine v_aload_n (pc := 176) C 3 rfl rfl dL_areEchoes_176 ?_
                    refine v_iload (pc := 177) C 7 rfl dL_areEchoes_177 ?_
                    refine v_iconst (pc := 179) C dL_areEchoes_179 ?_
                    refine v_calliH (pc := 180) C cwh_L_echoOf (ct_L_echoOf l L g r 1 (by first | assumption | omega | (unfold rg; omega)) (by first | assumption | omega | (unfold rg; omega)) (by first | assumption | omega | (unfold rg; omega)) (by first | assumption | omega | (unfold rg; omega))) ⟨Nat.le_of_ble_eq_true rfl, Nat.le_of_ble_eq_true rfl⟩ rfl (Nat.le_of_ble_eq_true rfl) ⟨Nat.le_of_ble_eq_true rfl, Nat.le_of_ble_eq_true rfl⟩ rfl dL_areEchoes_180 (fun r9 u9 hP_6 => ?_)
                    obtain ⟨hP_6, hP_6b⟩ := hP_6
                    rw [hP_6, hP_6b]
                    clear hP_6 hP_6b r9 u9
                    refine v_aload_n (pc := 183) C 6 rfl rfl dL_areEchoes_183 ?_
                    refine v_iload (pc := 184) C 8 rfl dL_areEchoes_184 ?_
                    refine al_17 (pc := 186) C ⟨by (first | assumption | omega | (unfold rg; omega)), by (first | assumption | omega | (unfold rg; omega))⟩ dL_areEchoes_186 (g 17 0 0 k) (rfl) ?_
                    refine v_bipush (pc := 187) C rfl dL_areEchoes_187 ?_
                    refine v_idiv (pc := 189) C (⟨⟨by (first | assumption | omega | (unfold rg; omega)), by (first | assumption | omega | (unfold rg; omega))⟩, ⟨by (first | assumption | omega | (unfold rg; omega)), by (first | assumption | omega | (unfold rg; omega))⟩, by (first | assumption | omega | (unfold rg; omega)), by (first | assumption | omega | (unfold rg; omega))⟩) dL_areEchoes_189 ?_
                    refine v_icmp_ne (pc := 190) C 254 ⟨by (first | assumption | omega | (unfold rg; omega)), by (first | assumption | omega | (unfold rg; omega))⟩ ⟨by (first | assumption | omega | (unfold rg; omega)), by (first | assumption | omega | (unfold rg; omega))⟩ (by decide) dL_areEchoes_190 (fun h190 => ?_) (fun h190 => ?_)
                    · skip
                      exfalso; omega
                    · skip
                      refine v_aload_n (pc := 193) C 3 rfl rfl dL_areEchoes_193 ?_
                      refine v_iload (pc := 194) C 7 rfl dL_areEchoes_194 ?_
                      refine v_iconst (pc := 196) C dL_areEchoes_196 ?_
                      refine v_calliH (pc := 197) C cwh_L_echoOf (ct_L_echoOf l L g r 2 (by first | assumption | omega | (unfold rg; omega)) (by first | assumption | omega | (unfold rg; omega)) (by first | assumption | omega | (unfold rg; omega)) (by first | assumption | omega | (unfold rg; omega))) ⟨Nat.le_of_ble_eq_true rfl, Nat.le_of_ble_eq_true rfl⟩ rfl (Nat.le_of_ble_eq_true rfl) ⟨Nat.le_of_ble_eq_true rfl, Nat.le_of_ble_eq_true rfl⟩ rfl dL_areEchoes_197 (fun r9 u9 hP_7 => ?_)
                      obtain ⟨hP_7, hP_7b⟩ := hP_7
                      rw [hP_7, hP_7b]
                      clear hP_7 hP_7b r9 u9
                      refine v_aload_n (pc := 200) C 6 rfl rfl dL_areEchoes_200 ?_
                      refine v_iload (pc := 201) C 8 rfl dL_areEchoes_201 ?_
                      refine al_17 (pc := 203) C ⟨by (first | assumption | omega | (unfold rg; omega)), by (first | assumption | omega | (unfold rg; omega))⟩ dL_areEchoes_203 (g 17 0 0 k) (rfl) ?_
                      refine v_bipush (pc := 204) C rfl dL_areEchoes_204 ?_
                      refine v_irem (pc := 206) C (⟨⟨by (first | assumption | omega | (unfold rg; omega)), by (first | assumption | omega | (unfold rg; omega))⟩, ⟨by (first | assumption | omega | (unfold rg; omega)), by (first | assumption | omega | (unfold rg; omega))⟩, by (first | assumption | omega | (unfold rg; omega)), by (first | assumption | omega | (unfold rg; omega))⟩) dL_areEchoes_206 ?_
                      refine v_icmp_ne (pc := 207) C 254 ⟨by (first | assumption | omega | (unfold rg; omega)), by (first | assumption | omega | (unfold rg; omega))⟩ ⟨by (first | assumption | omega | (unfold rg; omega)), by (first | assumption | omega | (unfold rg; omega))⟩ (by decide) dL_areEchoes_207 (fun h207 => ?_) (fun h207 => ?_)
                      · skip
                        exfalso; omega
                      · skip
                        refine v_aload_n (pc := 210) C 3 rfl rfl dL_areEchoes_210 ?_
                        refine v_iload (pc := 211) C 7 rfl dL_areEchoes_211 ?_
                        refine v_iconst (pc := 213) C dL_areEchoes_213 ?_
                        refine v_calliH (pc := 214) C cwh_L_echoOf (ct_L_echoOf l L g r 3 (by first | assumption | omega | (unfold rg; omega)) (by first | assumption | omega | (unfold rg; omega)) (by first | assumption | omega | (unfold rg; omega)) (by first | assumption | omega | (unfold rg; omega))) ⟨Nat.le_of_ble_eq_true rfl, Nat.le_of_ble_eq_true rfl⟩ rfl (Nat.le_of_ble_eq_true rfl) ⟨Nat.le_of_ble_eq_true rfl, Nat.le_of_ble_eq_true rfl⟩ rfl dL_areEchoes_214 (fun r9 u9 hP_8 => ?_)
                        obtain ⟨hP_8, hP_8b⟩ := hP_8
                        rw [hP_8, hP_8b]
                        clear hP_8 hP_8b r9 u9
                        refine v_iload (pc := 217) C 2 rfl dL_areEchoes_217 ?_
                        refine v_aload_n (pc := 219) C 4 rfl rfl dL_areEchoes_219 ?_
                        refine v_iconst (pc := 220) C dL_areEchoes_220 ?_
                        refine al_14 (pc := 221) C ⟨by (first | assumption | omega | (unfold rg; omega)), by (first | assumption | omega | (unfold rg; omega))⟩ dL_areEchoes_221 (g 14 0 0 3) (rfl) ?_
                        refine v_isub (pc := 222) C dL_areEchoes_222 ?_
                        refine v_icmp_ne (pc := 223) C 254 ⟨by (first | assumption | omega | (unfold rg; omega)), by (first | assumption | omega | (unfold rg; omega))⟩ ⟨by (first | assumption | omega | (unfold rg; omega)), by (first | assumption | omega | (unfold rg; omega))⟩ (by decide) dL_areEchoes_223 (fun h223 => ?_) (fun h223 => ?_)
                        · skip
                          exfalso; omega
                        · skip
                          refine v_aload_n (pc := 226) C 3 rfl rfl dL_areEchoes_226 ?_
                          refine v_iload (pc := 227) C 7 rfl dL_areEchoes_227 ?_
                          refine v_iconst (pc := 229) C dL_areEchoes_229 ?_
                          refine v_calliH (pc := 230) C cwh_L_echoOf (ct_L_echoOf l L g r 4 (by first | assumption | omega | (unfold rg; omega)) (by first | assumption | omega | (unfold rg; omega)) (by first | assumption | omega | (unfold rg; omega)) (by first | assumption | omega | (unfold rg; omega))) ⟨Nat.le_of_ble_eq_true rfl, Nat.le_of_ble_eq_true rfl⟩ rfl (Nat.le_of_ble_eq_true rfl) ⟨Nat.le_of_ble_eq_true rfl, Nat.le_of_ble_eq_true rfl⟩ rfl dL_areEchoes_230 (fun r9 u9 hP_9 => ?_)
                          obtain ⟨hP_9, hP_9b⟩ := hP_9
                          rw [hP_9, hP_9b]
                          clear hP_9 hP_9b r9 u9
                          refine v_aload_n (pc := 233) C 5 rfl rfl dL_areEchoes_233 ?_
                          refine v_iload (pc := 234) C 8 rfl dL_areEchoes_234 ?_
                          refine al_16 (pc := 236) C ⟨by (first | assumption | omega | (unfold rg; omega)), by (first | assumption | omega | (unfold rg; omega))⟩ dL_areEchoes_236 (g 16 0 0 k) (rfl) ?_
                          refine v_iconst (pc := 237) C dL_areEchoes_237 ?_
                          refine v_irem (pc := 238) C (⟨⟨by (first | assumption | omega | (unfold rg; omega)), by (first | assumption | omega | (unfold rg; omega))⟩, ⟨by (first | assumption | omega | (unfold rg; omega)), by (first | assumption | omega | (unfold rg; omega))⟩, by (first | assumption | omega | (unfold rg; omega)), by (first | assumption | omega | (unfold rg; omega))⟩) dL_areEchoes_238 ?_
                          refine v_icmp_ne (pc := 239) C 254 ⟨by (first | assumption | omega | (unfold rg; omega)), by (first | assumption | omega | (unfold rg; omega))⟩ ⟨by (first | assumption | omega | (unfold rg; omega)), by (first | assumption | omega | (unfold rg; omega))⟩ (by decide) dL_areEchoes_239 (fun h239 => ?_) (fun h239 => ?_)
                          · skip
                            exfalso; omega
                          · skip
                            refine v_aload_n (pc := 242) C 3 rfl rfl dL_areEchoes_242 ?_
                            refine v_iload (pc := 243) C 7 rfl dL_areEchoes_243 ?_
                            refine v_iconst (pc := 245) C dL_areEchoes_245 ?_
                            refine v_calliH (pc := 246) C cwh_L_echoOf (ct_L_echoOf l L g r 5 (by first | assumption | omega | (unfold rg; omega)) (by first | assumption | omega | (unfold rg; omega)) (by first | assumption | omega | (unfold rg; omega)) (by first | assumption | omega | (unfold rg; omega))) ⟨Nat.le_of_ble_eq_true rfl, Nat.le_of_ble_eq_true rfl⟩ rfl (Nat.le_of_ble_eq_true rfl) ⟨Nat.le_of_ble_eq_true rfl, Nat.le_of_ble_eq_true rfl⟩ rfl dL_areEchoes_246 (fun r9 u9 hP_10 => ?_)
                            obtain ⟨hP_10, hP_10b⟩ := hP_10
                            rw [hP_10, hP_10b]
                            clear hP_10 hP_10b r9 u9
                            refine v_iload (pc := 249) C 0 rfl dL_areEchoes_249 ?_
                            refine v_icmp_eq (pc := 251) C 256 ⟨by (first | assumption | omega | (unfold rg; omega)), by (first | assumption | omega | (unfold rg; omega))⟩ ⟨by (first | assumption | omega | (unfold rg; omega)), by (first | assumption | omega | (unfold rg; omega))⟩ (by decide) dL_areEchoes_251 (fun h251 => ?_) (fun h251 => ?_)
                            · skip
                              refine v_iinc (pc := 256) C 7 [(6, .int (iI (r + 1))), (8, .int (iI 0)), (5, .int (iI k)), (4, .int (iI ((g 16 0 0 k) / 2))), (0, .ref (adr L 0 0 0)), (1, .ref (adr L 14 0 0)), (2, .ref (adr L 16 0 0)), (3, .ref (adr L 17 0 0)), (7, .int (iI k))] rfl (by decide) rfl dL_areEchoes_256 ?_
                              refine v_goto (pc := 259) C 11 (by decide) dL_areEchoes_259 ?_
                              refine v_lsub [4, 5, 6, 7, 3, 2, 0] rfl ?_
                              exact ih11 (r + 1) ((g 16 0 0 k) / 2) k (by omega) (by omega) (by omega) (by exact rk_next hk.1.1 hk.1.2 hk.2) (by exact fun hx => qu_L hq (by decide) (by omega) hk.1.1 hk.1.2 (by omega)) (by omega)
                            · skip
                              exfalso; omega
                · skip
                  rw [if_pos (by omega)] at t5
                  refine v_iconst (pc := 149) C dL_areEchoes_149 ?_
                  refine v_goto (pc := 150) C 154 (by decide) dL_areEchoes_150 ?_
                  refine v_istore (pc := 154) C [(8, .int (iI 1)), (5, .int (iI k)), (4, .int (iI ((g 16 0 0 k) / 2))), (0, .ref (adr L 0 0 0)), (1, .ref (adr L 14 0 0)), (2, .ref (adr L 16 0 0)), (3, .ref (adr L 17 0 0)), (6, .int (iI r)), (7, .int (iI k))] (by decide) rfl dL_areEchoes_154 ?_
                  refine v_aload_n (pc := 156) C 3 rfl rfl dL_areEchoes_156 ?_
                  refine v_iload (pc := 157) C 7 rfl dL_areEchoes_157 ?_
                  refine v_iconst (pc := 159) C dL_areEchoes_159 ?_
                  refine v_calliH (pc := 160) C cwh_L_echoOf (ct_L_echoOf l L g r 0 (by first | assumption | omega | (unfold rg; omega)) (by first | assumption | omega | (unfold rg; omega)) (by first | assumption | omega | (unfold rg; omega)) (by first | assumption | omega | (unfold rg; omega))) ⟨Nat.le_of_ble_eq_true rfl, Nat.le_of_ble_eq_true rfl⟩ rfl (Nat.le_of_ble_eq_true rfl) ⟨Nat.le_of_ble_eq_true rfl, Nat.le_of_ble_eq_true rfl⟩ rfl dL_areEchoes_160 (fun r9 u9 hP_11 => ?_)
                  obtain ⟨hP_11, hP_11b⟩ := hP_11
                  rw [hP_11, hP_11b]
                  clear hP_11 hP_11b r9 u9
                  refine v_aload_n (pc := 163) C 6 rfl rfl dL_areEchoes_163 ?_
                  refine v_iload (pc := 164) C 8 rfl dL_areEchoes_164 ?_
                  refine al_17 (pc := 166) C ⟨by (first | assumption | omega | (unfold rg; omega)), by (first | assumption | omega | (unfold rg; omega))⟩ dL_areEchoes_166 (g 17 0 0 k) (rfl) ?_
                  refine v_bipush (pc := 167) C rfl dL_areEchoes_167 ?_
                  refine v_idiv (pc := 169) C (⟨⟨by (first | assumption | omega | (unfold rg; omega)), by (first | assumption | omega | (unfold rg; omega))⟩, ⟨by (first | assumption | omega | (unfold rg; omega)), by (first | assumption | omega | (unfold rg; omega))⟩, by (first | assumption | omega | (unfold rg; omega)), by (first | assumption | omega | (unfold rg; omega))⟩) dL_areEchoes_169 ?_
                  refine v_bipush (pc := 170) C rfl dL_areEchoes_170 ?_
                  refine v_irem (pc := 172) C (⟨⟨by (first | assumption | omega | (unfold rg; omega)), by (first | assumption | omega | (unfold rg; omega))⟩, ⟨by (first | assumption | omega | (unfold rg; omega)), by (first | assumption | omega | (unfold rg; omega))⟩, by (first | assumption | omega | (unfold rg; omega)), by (first | assumption | omega | (unfold rg; omega))⟩) dL_areEchoes_172 ?_
                  refine v_icmp_ne (pc := 173) C 254 ⟨by (first | assumption | omega | (unfold rg; omega)), by (first | assumption | omega | (unfold rg; omega))⟩ ⟨by (first | assumption | omega | (unfold rg; omega)), by (first | assumption | omega | (unfold rg; omega))⟩ (by decide) dL_areEchoes_173 (fun h173 => ?_) (fun h173 => ?_)
                  · skip
                    exfalso; omega
                  · skip
                    refine v_aload_n (pc := 176) C 3 rfl rfl dL_areEchoes_176 ?_
                    refine v_iload (pc := 177) C 7 rfl dL_areEchoes_177 ?_
                    refine v_iconst (pc := 179) C dL_areEchoes_179 ?_
                    refine v_calliH (pc := 180) C cwh_L_echoOf (ct_L_echoOf l L g r 1 (by first | assumption | omega | (unfold rg; omega)) (by first | assumption | omega | (unfold rg; omega)) (by first | assumption | omega | (unfold rg; omega)) (by first | assumption | omega | (unfold rg; omega))) ⟨Nat.le_of_ble_eq_true rfl, Nat.le_of_ble_eq_true rfl⟩ rfl (Nat.le_of_ble_eq_true rfl) ⟨Nat.le_of_ble_eq_true rfl, Nat.le_of_ble_eq_true rfl⟩ rfl dL_areEchoes_180 (fun r9 u9 hP_12 => ?_)
                    obtain ⟨hP_12, hP_12b⟩ := hP_12
                    rw [hP_12, hP_12b]
                    clear hP_12 hP_12b r9 u9
                    refine v_aload_n (pc := 183) C 6 rfl rfl dL_areEchoes_183 ?_
                    refine v_iload (pc := 184) C 8 rfl dL_areEchoes_184 ?_
                    refine al_17 (pc := 186) C ⟨by (first | assumption | omega | (unfold rg; omega)), by (first | assumption | omega | (unfold rg; omega))⟩ dL_areEchoes_186 (g 17 0 0 k) (rfl) ?_
                    refine v_bipush (pc := 187) C rfl dL_areEchoes_187 ?_
                    refine v_idiv (pc := 189) C (⟨⟨by (first | assumption | omega | (unfold rg; omega)), by (first | assumption | omega | (unfold rg; omega))⟩, ⟨by (first | assumption | omega | (unfold rg; omega)), by (first | assumption | omega | (unfold rg; omega))⟩, by (first | assumption | omega | (unfold rg; omega)), by (first | assumption | omega | (unfold rg; omega))⟩) dL_areEchoes_189 ?_
                    refine v_icmp_ne (pc := 190) C 254 ⟨by (first | assumption | omega | (unfold rg; omega)), by (first | assumption | omega | (unfold rg; omega))⟩ ⟨by (first | assumption | omega | (unfold rg; omega)), by (first | assumption | omega | (unfold rg; omega))⟩ (by decide) dL_areEchoes_190 (fun h190 => ?_) (fun h190 => ?_)
                    · skip
                      exfalso; omega
                    · skip
                      refine v_aload_n (pc := 193) C 3 rfl rfl dL_areEchoes_193 ?_
                      refine v_iload (pc := 194) C 7 rfl dL_areEchoes_194 ?_
                      refine v_iconst (pc := 196) C dL_areEchoes_196 ?_
                      refine v_calliH (pc := 197) C cwh_L_echoOf (ct_L_echoOf l L g r 2 (by first | assumption | omega | (unfold rg; omega)) (by first | assumption | omega | (unfold rg; omega)) (by first | assumption | omega | (unfold rg; omega)) (by first | assumption | omega | (unfold rg; omega))) ⟨Nat.le_of_ble_eq_true rfl, Nat.le_of_ble_eq_true rfl⟩ rfl (Nat.le_of_ble_eq_true rfl) ⟨Nat.le_of_ble_eq_true rfl, Nat.le_of_ble_eq_true rfl⟩ rfl dL_areEchoes_197 (fun r9 u9 hP_13 => ?_)
                      obtain ⟨hP_13, hP_13b⟩ := hP_13
                      rw [hP_13, hP_13b]
                      clear hP_13 hP_13b r9 u9
                      refine v_aload_n (pc := 200) C 6 rfl rfl dL_areEchoes_200 ?_
                      refine v_iload (pc := 201) C 8 rfl dL_areEchoes_201 ?_
                      refine al_17 (pc := 203) C ⟨by (first | assumption | omega | (unfold rg; omega)), by (first | assumption | omega | (unfold rg; omega))⟩ dL_areEchoes_203 (g 17 0 0 k) (rfl) ?_
                      refine v_bipush (pc := 204) C rfl dL_areEchoes_204 ?_
                      refine v_irem (pc := 206) C (⟨⟨by (first | assumption | omega | (unfold rg; omega)), by (first | assumption | omega | (unfold rg; omega))⟩, ⟨by (first | assumption | omega | (unfold rg; omega)), by (first | assumption | omega | (unfold rg; omega))⟩, by (first | assumption | omega | (unfold rg; omega)), by (first | assumption | omega | (unfold rg; omega))⟩) dL_areEchoes_206 ?_
                      refine v_icmp_ne (pc := 207) C 254 ⟨by (first | assumption | omega | (unfold rg; omega)), by (first | assumption | omega | (unfold rg; omega))⟩ ⟨by (first | assumption | omega | (unfold rg; omega)), by (first | assumption | omega | (unfold rg; omega))⟩ (by decide) dL_areEchoes_207 (fun h207 => ?_) (fun h207 => ?_)
                      · skip
                        exfalso; omega
                      · skip
                        refine v_aload_n (pc := 210) C 3 rfl rfl dL_areEchoes_210 ?_
                        refine v_iload (pc := 211) C 7 rfl dL_areEchoes_211 ?_
                        refine v_iconst (pc := 213) C dL_areEchoes_213 ?_
                        refine v_calliH (pc := 214) C cwh_L_echoOf (ct_L_echoOf l L g r 3 (by first | assumption | omega | (unfold rg; omega)) (by first | assumption | omega | (unfold rg; omega)) (by first | assumption | omega | (unfold rg; omega)) (by first | assumption | omega | (unfold rg; omega))) ⟨Nat.le_of_ble_eq_true rfl, Nat.le_of_ble_eq_true rfl⟩ rfl (Nat.le_of_ble_eq_true rfl) ⟨Nat.le_of_ble_eq_true rfl, Nat.le_of_ble_eq_true rfl⟩ rfl dL_areEchoes_214 (fun r9 u9 hP_14 => ?_)
                        obtain ⟨hP_14, hP_14b⟩ := hP_14
                        rw [hP_14, hP_14b]
                        clear hP_14 hP_14b r9 u9
                        refine v_iload (pc := 217) C 2 rfl dL_areEchoes_217 ?_
                        refine v_aload_n (pc := 219) C 4 rfl rfl dL_areEchoes_219 ?_
                        refine v_iconst (pc := 220) C dL_areEchoes_220 ?_
                        refine al_14 (pc := 221) C ⟨by (first | assumption | omega | (unfold rg; omega)), by (first | assumption | omega | (unfold rg; omega))⟩ dL_areEchoes_221 (g 14 0 0 3) (rfl) ?_
                        refine v_isub (pc := 222) C dL_areEchoes_222 ?_
                        refine v_icmp_ne (pc := 223) C 254 ⟨by (first | assumption | omega | (unfold rg; omega)), by (first | assumption | omega | (unfold rg; omega))⟩ ⟨by (first | assumption | omega | (unfold rg; omega)), by (first | assumption | omega | (unfold rg; omega))⟩ (by decide) dL_areEchoes_223 (fun h223 => ?_) (fun h223 => ?_)
                        · skip
                          exfalso; omega
                        · skip
                          refine v_aload_n (pc := 226) C 3 rfl rfl dL_areEchoes_226 ?_
                          refine v_iload (pc := 227) C 7 rfl dL_areEchoes_227 ?_
                          refine v_iconst (pc := 229) C dL_areEchoes_229 ?_
                          refine v_calliH (pc := 230) C cwh_L_echoOf (ct_L_echoOf l L g r 4 (by first | assumption | omega | (unfold rg; omega)) (by first | assumption | omega | (unfold rg; omega)) (by first | assumption | omega | (unfold rg; omega)) (by first | assumption | omega | (unfold rg; omega))) ⟨Nat.le_of_ble_eq_true rfl, Nat.le_of_ble_eq_true rfl⟩ rfl (Nat.le_of_ble_eq_true rfl) ⟨Nat.le_of_ble_eq_true rfl, Nat.le_of_ble_eq_true rfl⟩ rfl dL_areEchoes_230 (fun r9 u9 hP_15 => ?_)
                          obtain ⟨hP_15, hP_15b⟩ := hP_15
                          rw [hP_15, hP_15b]
                          clear hP_15 hP_15b r9 u9
                          refine v_aload_n (pc := 233) C 5 rfl rfl dL_areEchoes_233 ?_
                          refine v_iload (pc := 234) C 8 rfl dL_areEchoes_234 ?_
                          refine al_16 (pc := 236) C ⟨by (first | assumption | omega | (unfold rg; omega)), by (first | assumption | omega | (unfold rg; omega))⟩ dL_areEchoes_236 (g 16 0 0 k) (rfl) ?_
                          refine v_iconst (pc := 237) C dL_areEchoes_237 ?_
                          refine v_irem (pc := 238) C (⟨⟨by (first | assumption | omega | (unfold rg; omega)), by (first | assumption | omega | (unfold rg; omega))⟩, ⟨by (first | assumption | omega | (unfold rg; omega)), by (first | assumption | omega | (unfold rg; omega))⟩, by (first | assumption | omega | (unfold rg; omega)), by (first | assumption | omega | (unfold rg; omega))⟩) dL_areEchoes_238 ?_
                          refine v_icmp_ne (pc := 239) C 254 ⟨by (first | assumption | omega | (unfold rg; omega)), by (first | assumption | omega | (unfold rg; omega))⟩ ⟨by (first | assumption | omega | (unfold rg; omega)), by (first | assumption | omega | (unfold rg; omega))⟩ (by decide) dL_areEchoes_239 (fun h239 => ?_) (fun h239 => ?_)
                          · skip
                            exfalso; omega
                          · skip
                            refine v_aload_n (pc := 242) C 3 rfl rfl dL_areEchoes_242 ?_
                            refine v_iload (pc := 243) C 7 rfl dL_areEchoes_243 ?_
                            refine v_iconst (pc := 245) C dL_areEchoes_245 ?_
                            refine v_calliH (pc := 246) C cwh_L_echoOf (ct_L_echoOf l L g r 5 (by first | assumption | omega | (unfold rg; omega)) (by first | assumption | omega | (unfold rg; omega)) (by first | assumption | omega | (unfold rg; omega)) (by first | assumption | omega | (unfold rg; omega))) ⟨Nat.le_of_ble_eq_true rfl, Nat.le_of_ble_eq_true rfl⟩ rfl (Nat.le_of_ble_eq_true rfl) ⟨Nat.le_of_ble_eq_true rfl, Nat.le_of_ble_eq_true rfl⟩ rfl dL_areEchoes_246 (fun r9 u9 hP_16 => ?_)
                            obtain ⟨hP_16, hP_16b⟩ := hP_16
                            rw [hP_16, hP_16b]
                            clear hP_16 hP_16b r9 u9
                            refine v_iload (pc := 249) C 0 rfl dL_areEchoes_249 ?_
                            refine v_icmp_eq (pc := 251) C 256 ⟨by (first | assumption | omega | (unfold rg; omega)), by (first | assumption | omega | (unfold rg; omega))⟩ ⟨by (first | assumption | omega | (unfold rg; omega)), by (first | assumption | omega | (unfold rg; omega))⟩ (by decide) dL_areEchoes_251 (fun h251 => ?_) (fun h251 => ?_)
                            · skip
                              refine v_iinc (pc := 256) C 7 [(6, .int (iI (r + 1))), (8, .int (iI 1)), (5, .int (iI k)), (4, .int (iI ((g 16 0 0 k) / 2))), (0, .ref (adr L 0 0 0)), (1, .ref (adr L 14 0 0)), (2, .ref (adr L 16 0 0)), (3, .ref (adr L 17 0 0)), (7, .int (iI k))] rfl (by decide) rfl dL_areEchoes_256 ?_
                              refine v_goto (pc := 259) C 11 (by decide) dL_areEchoes_259 ?_
                              refine v_lsub [4, 5, 6, 7, 3, 2, 0] rfl ?_
                              exact ih11 (r + 1) ((g 16 0 0 k) / 2) k (by omega) (by omega) (by omega) (by exact rk_next hk.1.1 hk.1.2 hk.2) (by exact fun hx => qu_L hq (by decide) (by omega) hk.1.1 hk.1.2 (by omega)) (by omega)
                            · skip
                              exfalso; omega
              · skip
                refine v_iconst (pc := 116) C dL_areEchoes_116 ?_
                exact v_zret (pc := 117) C hr hlk (by first | assumption | omega | (unfold rg; omega)) (⟨congrArg iI (by omega), rfl⟩) dL_areEchoes_117
            · skip
              have hex := qEc x hx.1 (by omega)
              have hex2 := heR.2 x hx.1 (by omega)
              refine v_aload_n (pc := 35) C 2 rfl rfl dL_areEchoes_35 ?_
              refine v_iload (pc := 36) C 8 rfl dL_areEchoes_36 ?_
              refine al_16 (pc := 38) C ⟨by (first | assumption | omega | (unfold rg; omega)), by (first | assumption | omega | (unfold rg; omega))⟩ dL_areEchoes_38 (g 16 0 0 x) (rfl) ?_
              refine v_iconst (pc := 39) C dL_areEchoes_39 ?_
              refine v_idiv (pc := 40) C (⟨⟨by (first | assumption | omega | (unfold rg; omega)), by (first | assumption | omega | (unfold rg; omega))⟩, ⟨by (first | assumption | omega | (unfold rg; omega)), by (first | assumption | omega | (unfold rg; omega))⟩, by (first | assumption | omega | (unfold rg; omega)), by (first | assumption | omega | (unfold rg; omega))⟩) dL_areEchoes_40 ?_
              refine v_iload (pc := 41) C 4 rfl dL_areEchoes_41 ?_
              refine v_icmp_gt (pc := 43) C 64 ⟨by (first | assumption | omega | (unfold rg; omega)), by (first | assumption | omega | (unfold rg; omega))⟩ ⟨by (first | assumption | omega | (unfold rg; omega)), by (first | assumption | omega | (unfold rg; omega))⟩ (by decide) dL_areEchoes_43 (fun h43 => ?_) (fun h43 => ?_)
              · skip
                refine v_iconst (pc := 64) C dL_areEchoes_64 ?_
                refine v_goto (pc := 65) C 69 (by decide) dL_areEchoes_65 ?_
                refine v_istore (pc := 69) C [(9, .int (iI 1)), (0, .ref (adr L 0 0 0)), (1, .ref (adr L 14 0 0)), (2, .ref (adr L 16 0 0)), (3, .ref (adr L 17 0 0)), (4, .int (iI a)), (5, .int (iI b)), (6, .int (iI r)), (7, .int (iI k)), (8, .int (iI x))] (by decide) rfl dL_areEchoes_69 ?_
                refine v_iload (pc := 71) C 0 rfl dL_areEchoes_71 ?_
                refine v_if_eq (pc := 73) C 101 ⟨by (first | assumption | omega | (unfold rg; omega)), by (first | assumption | omega | (unfold rg; omega))⟩ (by decide) dL_areEchoes_73 (fun h73 => ?_) (fun h73 => ?_)
                · skip
                  exfalso; omega
                · skip
                  refine v_iload (pc := 76) C 8 rfl dL_areEchoes_76 ?_
                  refine v_if_lt (pc := 78) C 96 ⟨by (first | assumption | omega | (unfold rg; omega)), by (first | assumption | omega | (unfold rg; omega))⟩ (by decide) dL_areEchoes_78 (fun h78 => ?_) (fun h78 => ?_)
                  · skip
                    refine v_iload (pc := 96) C 9 rfl dL_areEchoes_96 ?_
                    refine v_goto (pc := 98) C 103 (by decide) dL_areEchoes_98 ?_
                    refine v_istore (pc := 103) C [(7, .int (iI x)), (9, .int (iI 1)), (0, .ref (adr L 0 0 0)), (1, .ref (adr L 14 0 0)), (2, .ref (adr L 16 0 0)), (3, .ref (adr L 17 0 0)), (4, .int (iI a)), (5, .int (iI b)), (6, .int (iI r)), (8, .int (iI x))] (by decide) rfl dL_areEchoes_103 ?_
                    refine v_iinc (pc := 105) C 9 [(8, .int (iI (x + 1))), (7, .int (iI x)), (9, .int (iI 1)), (0, .ref (adr L 0 0 0)), (1, .ref (adr L 14 0 0)), (2, .ref (adr L 16 0 0)), (3, .ref (adr L 17 0 0)), (4, .int (iI a)), (5, .int (iI b)), (6, .int (iI r))] rfl (by decide) rfl dL_areEchoes_105 ?_
                    refine v_goto (pc := 108) C 26 (by decide) dL_areEchoes_108 ?_
                    refine v_lsub [3, 4, 5, 6, 7, 8, 9, 1, 0] rfl ?_
                    exact ih26 (x + 1) x (by omega) (by omega) (by first | exact sl_no hsl (by unfold lft; omega) | exact sl_ye hx.1 hsl (by unfold lft; omega) (by omega) | exact sl_ke hx.1 hsl (by omega) (by omega)) (by omega)
                  · skip
                    have hek := qEc k (by omega) (by omega)
                    have hek2 := heR.2 k (by omega) (by omega)
                    refine v_aload_n (pc := 81) C 3 rfl rfl dL_areEchoes_81 ?_
                    refine v_iload (pc := 82) C 9 rfl dL_areEchoes_82 ?_
                    refine al_16 (pc := 84) C ⟨by (first | assumption | omega | (unfold rg; omega)), by (first | assumption | omega | (unfold rg; omega))⟩ dL_areEchoes_84 (g 16 0 0 x) (rfl) ?_
                    refine v_iconst (pc := 85) C dL_areEchoes_85 ?_
                    refine v_idiv (pc := 86) C (⟨⟨by (first | assumption | omega | (unfold rg; omega)), by (first | assumption | omega | (unfold rg; omega))⟩, ⟨by (first | assumption | omega | (unfold rg; omega)), by (first | assumption | omega | (unfold rg; omega))⟩, by (first | assumption | omega | (unfold rg; omega)), by (first | assumption | omega | (unfold rg; omega))⟩) dL_areEchoes_86 ?_
                    refine v_aload_n (pc := 87) C 3 rfl rfl dL_areEchoes_87 ?_
                    refine v_iload (pc := 88) C 8 rfl dL_areEchoes_88 ?_
                    refine al_16 (pc := 90) C ⟨by (first | assumption | omega | (unfold rg; omega)), by (first | assumption | omega | (unfold rg; omega))⟩ dL_areEchoes_90 (g 16 0 0 k) (rfl) ?_
                    refine v_iconst (pc := 91) C dL_areEchoes_91 ?_
                    refine v_idiv (pc := 92) C (⟨⟨by (first | assumption | omega | (unfold rg; omega)), by (first | assumption | omega | (unfold rg; omega))⟩, ⟨by (first | assumption | omega | (unfold rg; omega)), by (first | assumption | omega | (unfold rg; omega))⟩, by (first | assumption | omega | (unfold rg; omega)), by (first | assumption | omega | (unfold rg; omega))⟩) dL_areEchoes_92 ?_
                    refine v_icmp_ge (pc := 93) C 101 ⟨by (first | assumption | omega | (unfold rg; omega)), by (first | assumption | omega | (unfold rg; omega))⟩ ⟨by (first | assumption | omega | (unfold rg; omega)), by (first | assumption | omega | (unfold rg; omega))⟩ (by decide) dL_areEchoes_93 (fun h93 => ?_) (fun h93 => ?_)
                    · skip
                      refine v_iload (pc := 101) C 8 rfl dL_areEchoes_101 ?_
                      refine v_istore (pc := 103) C [(7, .int (iI k)), (9, .int (iI 1)), (0, .ref (adr L 0 0 0)), (1, .ref (adr L 14 0 0)), (2, .ref (adr L 16 0 0)), (3, .ref (adr L 17 0 0)), (4, .int (iI a)), (5, .int (iI b)), (6, .int (iI r)), (8, .int (iI x))] (by decide) rfl dL_areEchoes_103 ?_
                      refine v_iinc (pc := 105) C 9 [(8, .int (iI (x + 1))), (7, .int (iI k)), (9, .int (iI 1)), (0, .ref (adr L 0 0 0)), (1, .ref (adr L 14 0 0)), (2, .ref (adr L 16 0 0)), (3, .ref (adr L 17 0 0)), (4, .int (iI a)), (5, .int (iI b)), (6, .int (iI r))] rfl (by decide) rfl dL_areEchoes_105 ?_
                      refine v_goto (pc := 108) C 26 (by decide) dL_areEchoes_108 ?_
                      refine v_lsub [3, 4, 5, 6, 7, 8, 9, 1, 0] rfl ?_
                      exact ih26 (x + 1) k (by omega) (by omega) (by first | exact sl_no hsl (by unfold lft; omega) | exact sl_ye hx.1 hsl (by unfold lft; omega) (by omega) | exact sl_ke hx.1 hsl (by omega) (by omega)) (by omega)
                    · skip
                      refine v_iload (pc := 96) C 9 rfl dL_areEchoes_96 ?_
                      refine v_goto (pc := 98) C 103 (by decide) dL_areEchoes_98 ?_
                      refine v_istore (pc := 103) C [(7, .int (iI x)), (9, .int (iI 1)), (0, .ref (adr L 0 0 0)), (1, .ref (adr L 14 0 0)), (2, .ref (adr L 16 0 0)), (3, .ref (adr L 17 0 0)), (4, .int (iI a)), (5, .int (iI b)), (6, .int (iI r)), (8, .int (iI x))] (by decide) rfl dL_areEchoes_103 ?_
                      refine v_iinc (pc := 105) C 9 [(8, .int (iI (x + 1))), (7, .int (iI x)), (9, .int (iI 1)), (0, .ref (adr L 0 0 0)), (1, .ref (adr L 14 0 0)), (2, .ref (adr L 16 0 0)), (3, .ref (adr L 17 0 0)), (4, .int (iI a)), (5, .int (iI b)), (6, .int (iI r))] rfl (by decide) rfl dL_areEchoes_105 ?_
                      refine v_goto (pc := 108) C 26 (by decide) dL_areEchoes_108 ?_
                      refine v_lsub [3, 4, 5, 6, 7, 8, 9, 1, 0] rfl ?_
                      exact ih26 (x + 1) x (by omega) (by omega) (by first | exact sl_no hsl (by unfold lft; omega) | exact sl_ye hx.1 hsl (by unfold lft; omega) (by omega) | exact sl_ke hx.1 hsl (by omega) (by omega)) (by omega)
              · skip
                refine v_aload_n (pc := 46) C 2 rfl rfl dL_areEchoes_46 ?_
                refine v_iload (pc := 47) C 8 rfl dL_areEchoes_47 ?_
                refine al_16 (pc := 49) C ⟨by (first | assumption | omega | (unfold rg; omega)), by (first | assumption | omega | (unfold rg; omega))⟩ dL_areEchoes_49 (g 16 0 0 x) (rfl) ?_
                refine v_iconst (pc := 50) C dL_areEchoes_50 ?_
                refine v_idiv (pc := 51) C (⟨⟨by (first | assumption | omega | (unfold rg; omega)), by (first | assumption | omega | (unfold rg; omega))⟩, ⟨by (first | assumption | omega | (unfold rg; omega)), by (first | assumption | omega | (unfold rg; omega))⟩, by (first | assumption | omega | (unfold rg; omega)), by (first | assumption | omega | (unfold rg; omega))⟩) dL_areEchoes_51 ?_
                refine v_iload (pc := 52) C 4 rfl dL_areEchoes_52 ?_
                refine v_icmp_ne (pc := 54) C 68 ⟨by (first | assumption | omega | (unfold rg; omega)), by (first | assumption | omega | (unfold rg; omega))⟩ ⟨by (first | assumption | omega | (unfold rg; omega)), by (first | assumption | omega | (unfold rg; omega))⟩ (by decide) dL_areEchoes_54 (fun h54 => ?_) (fun h54 => ?_)
                · skip
                  refine v_iconst (pc := 68) C dL_areEchoes_68 ?_
                  refine v_istore (pc := 69) C [(9, .int (iI 0)), (0, .ref (adr L 0 0 0)), (1, .ref (adr L 14 0 0)), (2, .ref (adr L 16 0 0)), (3, .ref (adr L 17 0 0)), (4, .int (iI a)), (5, .int (iI b)), (6, .int (iI r)), (7, .int (iI k)), (8, .int (iI x))] (by decide) rfl dL_areEchoes_69 ?_
                  refine v_iload (pc := 71) C 0 rfl dL_areEchoes_71 ?_
                  refine v_if_eq (pc := 73) C 101 ⟨by (first | assumption | omega | (unfold rg; omega)), by (first | assumption | omega | (unfold rg; omega))⟩ (by decide) dL_areEchoes_73 (fun h73 => ?_) (fun h73 => ?_)
                  · skip
                    refine v_iload (pc := 101) C 8 rfl dL_areEchoes_101 ?_
                    refine v_istore (pc := 103) C [(7, .int (iI k)), (9, .int (iI 0)), (0, .ref (adr L 0 0 0)), (1, .ref (adr L 14 0 0)), (2, .ref (adr L 16 0 0)), (3, .ref (adr L 17 0 0)), (4, .int (iI a)), (5, .int (iI b)), (6, .int (iI r)), (8, .int (iI x))] (by decide) rfl dL_areEchoes_103 ?_
                    refine v_iinc (pc := 105) C 9 [(8, .int (iI (x + 1))), (7, .int (iI k)), (9, .int (iI 0)), (0, .ref (adr L 0 0 0)), (1, .ref (adr L 14 0 0)), (2, .ref (adr L 16 0 0)), (3, .ref (adr L 17 0 0)), (4, .int (iI a)), (5, .int (iI b)), (6, .int (iI r))] rfl (by decide) rfl dL_areEchoes_105 ?_
                    refine v_goto (pc := 108) C 26 (by decide) dL_areEchoes_108 ?_
                    refine v_lsub [3, 4, 5, 6, 7, 8, 9, 1, 0] rfl ?_
                    exact ih26 (x + 1) k (by omega) (by omega) (by first | exact sl_no hsl (by unfold lft; omega) | exact sl_ye hx.1 hsl (by unfold lft; omega) (by omega) | exact sl_ke hx.1 hsl (by omega) (by omega)) (by omega)
                  · skip
                    exfalso; omega
                · skip
                  refine v_iload (pc := 57) C 8 rfl dL_areEchoes_57 ?_
                  refine v_iload (pc := 59) C 5 rfl dL_areEchoes_59 ?_
                  refine v_icmp_le (pc := 61) C 68 ⟨by (first | assumption | omega | (unfold rg; omega)), by (first | assumption | omega | (unfold rg; omega))⟩ ⟨by (first | assumption | omega | (unfold rg; omega)), by (first | assumption | omega | (unfold rg; omega))⟩ (by decide) dL_areEchoes_61 (fun h61 => ?_) (fun h61 => ?_)
                  · skip
                    refine v_iconst (pc := 68) C dL_areEchoes_68 ?_
                    refine v_istore (pc := 69) C [(9, .int (iI 0)), (0, .ref (adr L 0 0 0)), (1, .ref (adr L 14 0 0)), (2, .ref (adr L 16 0 0)), (3, .ref (adr L 17 0 0)), (4, .int (iI a)), (5, .int (iI b)), (6, .int (iI r)), (7, .int (iI k)), (8, .int (iI x))] (by decide) rfl dL_areEchoes_69 ?_
                    refine v_iload (pc := 71) C 0 rfl dL_areEchoes_71 ?_
                    refine v_if_eq (pc := 73) C 101 ⟨by (first | assumption | omega | (unfold rg; omega)), by (first | assumption | omega | (unfold rg; omega))⟩ (by decide) dL_areEchoes_73 (fun h73 => ?_) (fun h73 => ?_)
                    · skip
                      refine v_iload (pc := 101) C 8 rfl dL_areEchoes_101 ?_
                      refine v_istore (pc := 103) C [(7, .int (iI k)), (9, .int (iI 0)), (0, .ref (adr L 0 0 0)), (1, .ref (adr L 14 0 0)), (2, .ref (adr L 16 0 0)), (3, .ref (adr L 17 0 0)), (4, .int (iI a)), (5, .int (iI b)), (6, .int (iI r)), (8, .int (iI x))] (by decide) rfl dL_areEchoes_103 ?_
                      refine v_iinc (pc := 105) C 9 [(8, .int (iI (x + 1))), (7, .int (iI k)), (9, .int (iI 0)), (0, .ref (adr L 0 0 0)), (1, .ref (adr L 14 0 0)), (2, .ref (adr L 16 0 0)), (3, .ref (adr L 17 0 0)), (4, .int (iI a)), (5, .int (iI b)), (6, .int (iI r))] rfl (by decide) rfl dL_areEchoes_105 ?_
                      refine v_goto (pc := 108) C 26 (by decide) dL_areEchoes_108 ?_
                      refine v_lsub [3, 4, 5, 6, 7, 8, 9, 1, 0] rfl ?_
                      exact ih26 (x + 1) k (by omega) (by omega) (by first | exact sl_no hsl (by unfold lft; omega) | exact sl_ye hx.1 hsl (by unfold lft; omega) (by omega) | exact sl_ke hx.1 hsl (by omega) (by omega)) (by omega)
                    · skip
                      exfalso; omega
                  · skip
                    refine v_iconst (pc := 64) C dL_areEchoes_64 ?_
                    refine v_goto (pc := 65) C 69 (by decide) dL_areEchoes_65 ?_
                    refine v_istore (pc := 69) C [(9, .int (iI 1)), (0, .ref (adr L 0 0 0)), (1, .ref (adr L 14 0 0)), (2, .ref (adr L 16 0 0)), (3, .ref (adr L 17 0 0)), (4, .int (iI a)), (5, .int (iI b)), (6, .int (iI r)), (7, .int (iI k)), (8, .int (iI x))] (by decide) rfl dL_areEchoes_69 ?_
                    refine v_iload (pc := 71) C 0 rfl dL_areEchoes_71 ?_
                    refine v_if_eq (pc := 73) C 101 ⟨by (first | assumption | omega | (unfold rg; omega)), by (first | assumption | omega | (unfold rg; omega))⟩ (by decide) dL_areEchoes_73 (fun h73 => ?_) (fun h73 => ?_)
                    · skip
                      exfalso; omega
                    · skip
                      refine v_iload (pc := 76) C 8 rfl dL_areEchoes_76 ?_
                      refine v_if_lt (pc := 78) C 96 ⟨by (first | assumption | omega | (unfold rg; omega)), by (first | assumption | omega | (unfold rg; omega))⟩ (by decide) dL_areEchoes_78 (fun h78 => ?_) (fun h78 => ?_)
                      · skip
                        refine v_iload (pc := 96) C 9 rfl dL_areEchoes_96 ?_
                        refine v_goto (pc := 98) C 103 (by decide) dL_areEchoes_98 ?_
                        refine v_istore (pc := 103) C [(7, .int (iI x)), (9, .int (iI 1)), (0, .ref (adr L 0 0 0)), (1, .ref (adr L 14 0 0)), (2, .ref (adr L 16 0 0)), (3, .ref (adr L 17 0 0)), (4, .int (iI a)), (5, .int (iI b)), (6, .int (iI r)), (8, .int (iI x))] (by decide) rfl dL_areEchoes_103 ?_
                        refine v_iinc (pc := 105) C 9 [(8, .int (iI (x + 1))), (7, .int (iI x)), (9, .int (iI 1)), (0, .ref (adr L 0 0 0)), (1, .ref (adr L 14 0 0)), (2, .ref (adr L 16 0 0)), (3, .ref (adr L 17 0 0)), (4, .int (iI a)), (5, .int (iI b)), (6, .int (iI r))] rfl (by decide) rfl dL_areEchoes_105 ?_
                        refine v_goto (pc := 108) C 26 (by decide) dL_areEchoes_108 ?_
                        refine v_lsub [3, 4, 5, 6, 7, 8, 9, 1, 0] rfl ?_
                        exact ih26 (x + 1) x (by omega) (by omega) (by first | exact sl_no hsl (by unfold lft; omega) | exact sl_ye hx.1 hsl (by unfold lft; omega) (by omega) | exact sl_ke hx.1 hsl (by omega) (by omega)) (by omega)
                      · skip
                        have hek := qEc k (by omega) (by omega)
                        have hek2 := heR.2 k (by omega) (by omega)
                        refine v_aload_n (pc := 81) C 3 rfl rfl dL_areEchoes_81 ?_
                        refine v_iload (pc := 82) C 9 rfl dL_areEchoes_82 ?_
                        refine al_16 (pc := 84) C ⟨by (first | assumption | omega | (unfold rg; omega)), by (first | assumption | omega | (unfold rg; omega))⟩ dL_areEchoes_84 (g 16 0 0 x) (rfl) ?_
                        refine v_iconst (pc := 85) C dL_areEchoes_85 ?_
                        refine v_idiv (pc := 86) C (⟨⟨by (first | assumption | omega | (unfold rg; omega)), by (first | assumption | omega | (unfold rg; omega))⟩, ⟨by (first | assumption | omega | (unfold rg; omega)), by (first | assumption | omega | (unfold rg; omega))⟩, by (first | assumption | omega | (unfold rg; omega)), by (first | assumption | omega | (unfold rg; omega))⟩) dL_areEchoes_86 ?_
                        refine v_aload_n (pc := 87) C 3 rfl rfl dL_areEchoes_87 ?_
                        refine v_iload (pc := 88) C 8 rfl dL_areEchoes_88 ?_
                        refine al_16 (pc := 90) C ⟨by (first | assumption | omega | (unfold rg; omega)), by (first | assumption | omega | (unfold rg; omega))⟩ dL_areEchoes_90 (g 16 0 0 k) (rfl) ?_
                        refine v_iconst (pc := 91) C dL_areEchoes_91 ?_
                        refine v_idiv (pc := 92) C (⟨⟨by (first | assumption | omega | (unfold rg; omega)), by (first | assumption | omega | (unfold rg; omega))⟩, ⟨by (first | assumption | omega | (unfold rg; omega)), by (first | assumption | omega | (unfold rg; omega))⟩, by (first | assumption | omega | (unfold rg; omega)), by (first | assumption | omega | (unfold rg; omega))⟩) dL_areEchoes_92 ?_
                        refine v_icmp_ge (pc := 93) C 101 ⟨by (first | assumption | omega | (unfold rg; omega)), by (first | assumption | omega | (unfold rg; omega))⟩ ⟨by (first | assumption | omega | (unfold rg; omega)), by (first | assumption | omega | (unfold rg; omega))⟩ (by decide) dL_areEchoes_93 (fun h93 => ?_) (fun h93 => ?_)
                        · skip
                          refine v_iload (pc := 101) C 8 rfl dL_areEchoes_101 ?_
                          refine v_istore (pc := 103) C [(7, .int (iI k)), (9, .int (iI 1)), (0, .ref (adr L 0 0 0)), (1, .ref (adr L 14 0 0)), (2, .ref (adr L 16 0 0)), (3, .ref (adr L 17 0 0)), (4, .int (iI a)), (5, .int (iI b)), (6, .int (iI r)), (8, .int (iI x))] (by decide) rfl dL_areEchoes_103 ?_
                          refine v_iinc (pc := 105) C 9 [(8, .int (iI (x + 1))), (7, .int (iI k)), (9, .int (iI 1)), (0, .ref (adr L 0 0 0)), (1, .ref (adr L 14 0 0)), (2, .ref (adr L 16 0 0)), (3, .ref (adr L 17 0 0)), (4, .int (iI a)), (5, .int (iI b)), (6, .int (iI r))] rfl (by decide) rfl dL_areEchoes_105 ?_
                          refine v_goto (pc := 108) C 26 (by decide) dL_areEchoes_108 ?_
                          refine v_lsub [3, 4, 5, 6, 7, 8, 9, 1, 0] rfl ?_
                          exact ih26 (x + 1) k (by omega) (by omega) (by first | exact sl_no hsl (by unfold lft; omega) | exact sl_ye hx.1 hsl (by unfold lft; omega) (by omega) | exact sl_ke hx.1 hsl (by omega) (by omega)) (by omega)
                        · skip
                          refine v_iload (pc := 96) C 9 rfl dL_areEchoes_96 ?_
                          refine v_goto (pc := 98) C 103 (by decide) dL_areEchoes_98 ?_
                          refine v_istore (pc := 103) C [(7, .int (iI x)), (9, .int (iI 1)), (0, .ref (adr L 0 0 0)), (1, .ref (adr L 14 0 0)), (2, .ref (adr L 16 0 0)), (3, .ref (adr L 17 0 0)), (4, .int (iI a)), (5, .int (iI b)), (6, .int (iI r)), (8, .int (iI x))] (by decide) rfl dL_areEchoes_103 ?_
                          refine v_iinc (pc := 105) C 9 [(8, .int (iI (x + 1))), (7, .int (iI x)), (9, .int (iI 1)), (0, .ref (adr L 0 0 0)), (1, .ref (adr L 14 0 0)), (2, .ref (adr L 16 0 0)), (3, .ref (adr L 17 0 0)), (4, .int (iI a)), (5, .int (iI b)), (6, .int (iI r))] rfl (by decide) rfl dL_areEchoes_105 ?_
                          refine v_goto (pc := 108) C 26 (by decide) dL_areEchoes_108 ?_
                          refine v_lsub [3, 4, 5, 6, 7, 8, 9, 1, 0] rfl ?_
                          exact ih26 (x + 1) x (by omega) (by omega) (by first | exact sl_no hsl (by unfold lft; omega) | exact sl_ye hx.1 hsl (by unfold lft; omega) (by omega) | exact sl_ke hx.1 hsl (by omega) (by omega)) (by omega)
        refine v_lsub [2, 3, 4, 5, 6, 7, 8, 1, 0] rfl ?_
        exact lb26 _ 0 (-1) (by omega) (by omega) (by exact sl_0 g a b) (Nat.lt_succ_self _)
  refine v_lsub [3, 4, 5, 6, 2, 1, 0] rfl ?_
  exact lb11 _ 0 (g 14 0 0 3) (-1) (by omega) (by omega) (by omega) (by exact rk_first hq (by decide)) (by exact fun hx => qu_0 hx.symm) (Nat.lt_succ_self _)
theorem cw_RL_23 : CW RL 23 RX6 yX6_set cX6_set 4 (some .int) 2 := ⟨u_13_12, u_13_13, u_13_14, u_1_2, u_13_15, by decide +kernel⟩
set_option maxHeartbeats 4000000 in
set_option maxRecDepth 100000 in
theorem ct_L_set (l : Launch) (L : Lay) (hfl : l.flags = flags0) (g : St) (a v : Int) (ha : 0 ≤ a ∧ a < 3) (hv : lsV a ≤ v ∧ v ≤ msV a) (hh : wh g) (hA : wA g) : Met l yL_set (.codeWith yL_set cL_set 4 (some .int) [(0, 6, 7, 16), (0, 6, 11, 18), (0, 6, 15, 26)] :: wsL_law) { frames := 7, cells := 1, slots := 6, locals := 113 } (va_Pc [.ref (adr L 0 0 0), .int (iI a), .int (iI v)] (HS L g)) (va_Qi (fun (r9 : Int32) (u : St) => ∃ z : Int, r9 = iI z ∧ ((z = -103 ∧ u = g ∧ a = 0 ∧ v < fur g 0) ∨ (z = g 2 0 0 a ∧ u = up (svG g 0) 2 0 0 a v ∧ (a = 0 → fur g 0 ≤ v)))) (fun u t => HS L u t) (Af L)) 1 6 (Af L) := by
  refine ct_mkH (by decide +kernel) (Nat.le_of_ble_eq_true rfl) ?_
  intro pp ee ss mm bel mth cx C hr hlk htab
  show V pp l ee { frames := 7, cells := 1, slots := 6, locals := 113 } ss mm ([.ref (adr L 0 0 0), .int (iI a), .int (iI v)]).toArray bel mth cx 4 L (HH L g) 0 0 _ 0 [(0, .ref (adr L 0 0 0)), (1, .int (iI a)), (2, .int (iI v))] []
  refine v_aload_n (pc := 0) C 0 rfl rfl dL_set_0 ?_
  refine v_iload_n (pc := 1) C 1 rfl rfl dL_set_1 ?_
  refine v_iload_n (pc := 2) C 2 rfl rfl dL_set_2 ?_
  refine v_tryi (pc := 3) C cw_RL_23 rcv_0 (ct_X6_set l L hfl g a v ha hv hh hA) ⟨Nat.le_of_ble_eq_true rfl, Nat.le_of_ble_eq_true rfl⟩ rfl (Nat.le_of_ble_eq_true rfl) ⟨Nat.le_of_ble_eq_true rfl, Nat.le_of_ble_eq_true rfl⟩ rfl dL_set_3 (fun E hE => ?_) (fun rr u0 hP => ?_)
  · obtain ⟨rfl, hE2⟩ := hE
    refine ⟨[⟨0, 6, 7, 16⟩, ⟨0, 6, 11, 18⟩], ⟨0, 6, 15, 26⟩, [], htab, (fun z hz => ?_), by decide, by decide, by decide, u_13_11, fun qx => ?_⟩
    · simp only [List.mem_cons, List.not_mem_nil, or_false] at hz
      rcases hz with rfl | rfl
      · exact ⟨by decide, eIX, u_4_9, by decide, by decide⟩
      · exact ⟨by decide, eIA, u_6_18, by decide, by decide⟩
    · refine v_astore_n (pc := 15) C [(3, .ref qx), (0, .ref (adr L 0 0 0)), (1, .int (iI a)), (2, .int (iI v))] rfl (by decide) rfl dL_set_15 ?_
      refine v_bipush (pc := 16) C rfl dL_set_16 ?_
      exact v_iret (pc := 18) C hr hlk ⟨-103, rfl, Or.inl ⟨rfl, rfl, hE2⟩⟩ dL_set_18
  · obtain ⟨rfl, rfl, hc⟩ := hP
    exact v_iret (pc := 6) C hr hlk ⟨_, rfl, Or.inr ⟨rfl, rfl, hc⟩⟩ dL_set_6
set_option maxHeartbeats 4000000 in
set_option maxRecDepth 100000 in
theorem ct_L_does (l : Launch) (L : Lay) (hfl : l.flags = flags0) (g : St) (k a b : Int) (hk : 0 ≤ k ∧ k ≤ 4) (hh2 : doH g k a b) (hh : wh g) (hA : wA g) (h6 : ∀ p, 0 ≤ p → p < 4 → eOf g 0 p + 2 ≤ 6 → g 1 0 0 2 + 2 ≤ 24) : Met l yL_does (.code yL_does cL_does 4 (some .int) :: wsL_law) { frames := 8, cells := 1, slots := 6, locals := 156 } (va_Pc [.ref (adr L 0 0 0), .int (iI k), .int (iI a), .int (iI b)] (HS L g)) (va_Qi (fun (r9 : Int32) (u : St) => ∃ z : Int, r9 = iI z ∧ (doR5 g u k a b z)) (fun u t => HS L u t) (Af L)) 1 6 (Af L) := by
  refine ct_mk (by decide +kernel) (Nat.le_of_ble_eq_true rfl) ?_
  intro pp ee ss mm bel mth cx C hr hlk
  show V pp l ee { frames := 8, cells := 1, slots := 6, locals := 156 } ss mm ([.ref (adr L 0 0 0), .int (iI k), .int (iI a), .int (iI b)]).toArray bel mth cx 4 L (HH L g) 0 0 _ 0 [(0, .ref (adr L 0 0 0)), (1, .int (iI k)), (2, .int (iI a)), (3, .int (iI b))] []
  obtain ⟨d0, d1, d2, d3, d4⟩ := id hh2
  have lw9 := lw_in b (n := 9) (by decide)
  have lw2 := lw_in b (n := 2) (by decide)
  refine v_iload_n (pc := 0) C 1 rfl rfl dL_does_0 ?_
  by_cases h1_0 : k = 0
  · skip
    refine v_tableIn (pc := 1) (o := 31) C 32 ⟨by (first | assumption | omega | (unfold rg; omega)), by (first | assumption | omega | (unfold rg; omega))⟩ (by (first | assumption | omega | (unfold rg; omega))) (by (first | assumption | omega | (unfold rg; omega))) (by rw [h1_0]; rfl) (by decide) dL_does_1 ?_
    have d := d0 h1_0
    refine v_aload_n (pc := 32) C 0 rfl rfl dL_does_32 ?_
    refine v_iload_n (pc := 33) C 2 rfl rfl dL_does_33 ?_
    refine v_iload_n (pc := 34) C 3 rfl rfl dL_does_34 ?_
    refine v_calliH (pc := 35) C cwh_L_call (ct_L_call l L g a b (by exact d.1) (by exact d.2) (by first | assumption | omega | (unfold rg; omega)) (by first | assumption | omega | (unfold rg; omega)) (by first | assumption | omega | (unfold rg; omega))) ⟨Nat.le_of_ble_eq_true rfl, Nat.le_of_ble_eq_true rfl⟩ rfl (Nat.le_of_ble_eq_true rfl) ⟨Nat.le_of_ble_eq_true rfl, Nat.le_of_ble_eq_true rfl⟩ rfl dL_does_35 (fun r9 u_2 hP_1 => ?_)
    obtain ⟨z_3, rfl, hP_1⟩ := hP_1
    refine v_widen (k := 1) (n := 6) (Nat.le_of_ble_eq_true rfl) (Nat.le_of_ble_eq_true rfl) ?_
    exact v_iret (pc := 38) C hr hlk (⟨_, rfl, Or.inl ⟨h1_0, hP_1⟩⟩) dL_does_38
  by_cases h1_1 : k = 1
  · skip
    refine v_tableIn (pc := 1) (o := 38) C 39 ⟨by (first | assumption | omega | (unfold rg; omega)), by (first | assumption | omega | (unfold rg; omega))⟩ (by (first | assumption | omega | (unfold rg; omega))) (by (first | assumption | omega | (unfold rg; omega))) (by rw [h1_1]; rfl) (by decide) dL_does_1 ?_
    have d := d1 h1_1
    refine v_aload_n (pc := 39) C 0 rfl rfl dL_does_39 ?_
    refine v_iload_n (pc := 40) C 2 rfl rfl dL_does_40 ?_
    refine v_iload_n (pc := 41) C 3 rfl rfl dL_does_41 ?_
    refine v_calliH (pc := 42) C cwh_L_walk (ct_L_walk l L g a b (by exact d.1) (by exact d.2) (by first | assumption | omega | (unfold rg; omega)) (by first | assumption | omega | (unfold rg; omega))) ⟨Nat.le_of_ble_eq_true rfl, Nat.le_of_ble_eq_true rfl⟩ rfl (Nat.le_of_ble_eq_true rfl) ⟨Nat.le_of_ble_eq_true rfl, Nat.le_of_ble_eq_true rfl⟩ rfl dL_does_42 (fun r9 u9 hP_4 => ?_)
    obtain ⟨hP_4, hP_4b⟩ := hP_4
    rw [hP_4, hP_4b]
    clear hP_4 hP_4b r9 u9
    refine v_widen (k := 1) (n := 6) (Nat.le_of_ble_eq_true rfl) (Nat.le_of_ble_eq_true rfl) ?_
    exact v_iret (pc := 45) C hr hlk (⟨_, rfl, Or.inr (Or.inl ⟨h1_1, rfl, rfl⟩)⟩) dL_does_45
  by_cases h1_2 : k = 2
  · skip
    refine v_tableIn (pc := 1) (o := 45) C 46 ⟨by (first | assumption | omega | (unfold rg; omega)), by (first | assumption | omega | (unfold rg; omega))⟩ (by (first | assumption | omega | (unfold rg; omega))) (by (first | assumption | omega | (unfold rg; omega))) (by rw [h1_2]; rfl) (by decide) dL_does_1 ?_
    have d := d2 h1_2
    refine v_aload_n (pc := 46) C 0 rfl rfl dL_does_46 ?_
    refine v_iload_n (pc := 47) C 2 rfl rfl dL_does_47 ?_
    refine v_iconst (pc := 48) C dL_does_48 ?_
    refine v_iload_n (pc := 49) C 3 rfl rfl dL_does_49 ?_
    refine v_bipush (pc := 50) C rfl dL_does_50 ?_
    refine v_calliS (pc := 52) C cw_RL_101 (ct_L_low l L g b 9 (by unfold rg; omega) (by first | assumption | omega | (unfold rg; omega))) ⟨Nat.le_of_ble_eq_true rfl, Nat.le_of_ble_eq_true rfl⟩ rfl (Nat.le_of_ble_eq_true rfl) ⟨Nat.le_of_ble_eq_true rfl, Nat.le_of_ble_eq_true rfl⟩ rfl dL_does_52 (fun r9 u9 hP_5 => ?_)
    obtain ⟨hP_5, hP_5b⟩ := hP_5
    rw [hP_5, hP_5b]
    clear hP_5 hP_5b r9 u9
    refine v_iadd (pc := 55) C dL_does_55 ?_
    refine v_iload_n (pc := 56) C 3 rfl rfl dL_does_56 ?_
    refine v_iconst (pc := 57) C dL_does_57 ?_
    refine v_calliS (pc := 58) C cw_RL_101 (ct_L_low l L g b 2 (by unfold rg; omega) (by first | assumption | omega | (unfold rg; omega))) ⟨Nat.le_of_ble_eq_true rfl, Nat.le_of_ble_eq_true rfl⟩ rfl (Nat.le_of_ble_eq_true rfl) ⟨Nat.le_of_ble_eq_true rfl, Nat.le_of_ble_eq_true rfl⟩ rfl dL_does_58 (fun r9 u9 hP_6 => ?_)
    obtain ⟨hP_6, hP_6b⟩ := hP_6
    rw [hP_6, hP_6b]
    clear hP_6 hP_6b r9 u9
    refine v_if_ne (pc := 61) C 68 ⟨by (first | assumption | omega | (unfold rg; omega)), by (first | assumption | omega | (unfold rg; omega))⟩ (by decide) dL_does_61 (fun h61 => ?_) (fun h61 => ?_)
    · skip
      refine v_iconst (pc := 68) C dL_does_68 ?_
      refine v_calliH (pc := 69) C cwh_L_throwBall (ct_L_throwBall l L g a (1 + (lw b 9)) 0 (by exact d.1) (by omega) (by first | assumption | omega | (unfold rg; omega)) (by first | assumption | omega | (unfold rg; omega)) (by first | assumption | omega | (unfold rg; omega))) ⟨Nat.le_of_ble_eq_true rfl, Nat.le_of_ble_eq_true rfl⟩ rfl (Nat.le_of_ble_eq_true rfl) ⟨Nat.le_of_ble_eq_true rfl, Nat.le_of_ble_eq_true rfl⟩ rfl dL_does_69 (fun r9 u9 hP_7 => ?_)
      obtain ⟨hP_7, hP_7b⟩ := hP_7
      rw [hP_7, hP_7b]
      clear hP_7 hP_7b r9 u9
      refine v_widen (k := 1) (n := 6) (Nat.le_of_ble_eq_true rfl) (Nat.le_of_ble_eq_true rfl) ?_
      exact v_iret (pc := 72) C hr hlk (⟨_, rfl, Or.inr (Or.inr (Or.inl ⟨h1_2, rfl, by first | rw [if_pos (by omega)] | rw [if_neg (by omega)]⟩))⟩) dL_does_72
    · skip
      refine v_iconst (pc := 64) C dL_does_64 ?_
      refine v_goto (pc := 65) C 69 (by decide) dL_does_65 ?_
      refine v_calliH (pc := 69) C cwh_L_throwBall (ct_L_throwBall l L g a (1 + (lw b 9)) 1 (by exact d.1) (by omega) (by first | assumption | omega | (unfold rg; omega)) (by first | assumption | omega | (unfold rg; omega)) (by first | assumption | omega | (unfold rg; omega))) ⟨Nat.le_of_ble_eq_true rfl, Nat.le_of_ble_eq_true rfl⟩ rfl (Nat.le_of_ble_eq_true rfl) ⟨Nat.le_of_ble_eq_true rfl, Nat.le_of_ble_eq_true rfl⟩ rfl dL_does_69 (fun r9 u9 hP_8 => ?_)
      obtain ⟨hP_8, hP_8b⟩ := hP_8
      rw [hP_8, hP_8b]
      clear hP_8 hP_8b r9 u9
      refine v_widen (k := 1) (n := 6) (Nat.le_of_ble_eq_true rfl) (Nat.le_of_ble_eq_true rfl) ?_
      exact v_iret (pc := 72) C hr hlk (⟨_, rfl, Or.inr (Or.inr (Or.inl ⟨h1_2, rfl, by first | rw [if_pos (by omega)] | rw [if_neg (by omega)]⟩))⟩) dL_does_72
  by_cases h1_3 : k = 3
  · skip
    refine v_tableIn (pc := 1) (o := 72) C 73 ⟨by (first | assumption | omega | (unfold rg; omega)), by (first | assumption | omega | (unfold rg; omega))⟩ (by (first | assumption | omega | (unfold rg; omega))) (by (first | assumption | omega | (unfold rg; omega))) (by rw [h1_3]; rfl) (by decide) dL_does_1 ?_
    have d := d3 h1_3
    refine v_aload_n (pc := 73) C 0 rfl rfl dL_does_73 ?_
    refine v_iload_n (pc := 74) C 2 rfl rfl dL_does_74 ?_
    refine v_iload_n (pc := 75) C 3 rfl rfl dL_does_75 ?_
    refine v_calliH (pc := 76) C cwh_L_set (ct_L_set l L hfl g a b (by exact d.1) (by exact d.2) (by first | assumption | omega | (unfold rg; omega)) (by first | assumption | omega | (unfold rg; omega))) ⟨Nat.le_of_ble_eq_true rfl, Nat.le_of_ble_eq_true rfl⟩ rfl (Nat.le_of_ble_eq_true rfl) ⟨Nat.le_of_ble_eq_true rfl, Nat.le_of_ble_eq_true rfl⟩ rfl dL_does_76 (fun r9 u_10 hP_9 => ?_)
    obtain ⟨z_11, rfl, hP_9⟩ := hP_9
    refine v_widen (k := 1) (n := 6) (Nat.le_of_ble_eq_true rfl) (Nat.le_of_ble_eq_true rfl) ?_
    exact v_iret (pc := 79) C hr hlk (⟨_, rfl, Or.inr (Or.inr (Or.inr (Or.inl ⟨h1_3, hP_9⟩)))⟩) dL_does_79
  refine v_tableOut (pc := 1) C 80 ⟨by (first | assumption | omega | (unfold rg; omega)), by (first | assumption | omega | (unfold rg; omega))⟩ (by (first | assumption | omega | (unfold rg; omega))) (by decide) dL_does_1 ?_
  have d := d4 (by omega)
  refine v_aload_n (pc := 80) C 0 rfl rfl dL_does_80 ?_
  refine v_iload_n (pc := 81) C 2 rfl rfl dL_does_81 ?_
  refine v_calliH (pc := 82) C cwh_L_pass (ct_L_pass l L g a (by exact d.1) (by exact d.2) (by first | assumption | omega | (unfold rg; omega)) (by first | assumption | omega | (unfold rg; omega))) ⟨Nat.le_of_ble_eq_true rfl, Nat.le_of_ble_eq_true rfl⟩ rfl (Nat.le_of_ble_eq_true rfl) ⟨Nat.le_of_ble_eq_true rfl, Nat.le_of_ble_eq_true rfl⟩ rfl dL_does_82 (fun r9 u_13 hP_12 => ?_)
  obtain ⟨z_14, rfl, hP_12⟩ := hP_12
  refine v_widen (k := 1) (n := 6) (Nat.le_of_ble_eq_true rfl) (Nat.le_of_ble_eq_true rfl) ?_
  exact v_iret (pc := 85) C hr hlk (⟨_, rfl, Or.inr (Or.inr (Or.inr (Or.inr ⟨by omega, hP_12⟩)))⟩) dL_does_85
set_option maxHeartbeats 4000000 in
set_option maxRecDepth 100000 in
theorem ct_L_due (l : Launch) (L : Lay) (g : St) (k a b : Int) (hk : 0 ≤ k ∧ k ≤ 4) (hh2 : duH g k a b) (hq : wq g 1) : Met l yL_due (.code yL_due cL_due 11 (some .int) :: wsL_law) { frames := 3, cells := 0, slots := 0, locals := 84 } (va_Pc [.int (iI k), .int (iI a), .int (iI b), .ref (adr L 14 0 0), .ref (adr L 15 0 0), .ref (adr L 16 0 0), .ref (adr L 17 0 0)] (HS L g)) (va_Qi (fun (r9 : Int32) (u : St) => ∃ z : Int, r9 = iI z ∧ (duR5 g u k a b z)) (fun u t => HS L u t) (Af L)) 0 0 (Af L) := by
  refine ct_mk (by decide +kernel) (Nat.le_of_ble_eq_true rfl) ?_
  intro pp ee ss mm bel mth cx C hr hlk
  show V pp l ee { frames := 3, cells := 0, slots := 0, locals := 84 } ss mm ([.int (iI k), .int (iI a), .int (iI b), .ref (adr L 14 0 0), .ref (adr L 15 0 0), .ref (adr L 16 0 0), .ref (adr L 17 0 0)]).toArray bel mth cx 11 L (HH L g) 0 0 _ 0 [(0, .int (iI k)), (1, .int (iI a)), (2, .int (iI b)), (3, .ref (adr L 14 0 0)), (4, .ref (adr L 15 0 0)), (5, .ref (adr L 16 0 0)), (6, .ref (adr L 17 0 0))] []
  obtain ⟨qS0, qS1, qS2, qB0, qB1, qCl, qN, qPl, qEc⟩ := wq_s hq
  obtain ⟨d0, d1, d2, d3, d4⟩ := id hh2
  have lw9 := lw_in b (n := 9) (by decide)
  have lw2 := lw_in b (n := 2) (by decide)
  refine v_iload_n (pc := 0) C 0 rfl rfl dL_due_0 ?_
  by_cases h1_0 : k = 0
  · skip
    refine v_tableIn (pc := 1) (o := 31) C 32 ⟨by (first | assumption | omega | (unfold rg; omega)), by (first | assumption | omega | (unfold rg; omega))⟩ (by (first | assumption | omega | (unfold rg; omega))) (by (first | assumption | omega | (unfold rg; omega))) (by rw [h1_0]; rfl) (by decide) dL_due_1 ?_
    have d := d0 h1_0
    refine v_iload_n (pc := 32) C 1 rfl rfl dL_due_32 ?_
    refine v_iload_n (pc := 33) C 2 rfl rfl dL_due_33 ?_
    refine v_aload_n (pc := 34) C 3 rfl rfl dL_due_34 ?_
    refine v_aload (pc := 35) C 4 rfl dL_due_35 ?_
    refine v_aload (pc := 37) C 5 rfl dL_due_37 ?_
    refine v_aload (pc := 39) C 6 rfl dL_due_39 ?_
    refine v_calliS (pc := 41) C cw_RL_111 (ct_L_calls l L g a b (by exact hq) (by exact d.1) (by exact d.2.1) (by exact d.2.2)) ⟨Nat.le_of_ble_eq_true rfl, Nat.le_of_ble_eq_true rfl⟩ rfl (Nat.le_of_ble_eq_true rfl) ⟨Nat.le_of_ble_eq_true rfl, Nat.le_of_ble_eq_true rfl⟩ rfl dL_due_41 (fun r9 u9 hP_1 => ?_)
    obtain ⟨hP_1, hP_1b⟩ := hP_1
    rw [hP_1, hP_1b]
    clear hP_1 hP_1b r9 u9
    exact v_iret (pc := 44) C hr hlk (⟨_, rfl, Or.inl ⟨h1_0, rfl, rfl⟩⟩) dL_due_44
  by_cases h1_1 : k = 1
  · skip
    refine v_tableIn (pc := 1) (o := 44) C 45 ⟨by (first | assumption | omega | (unfold rg; omega)), by (first | assumption | omega | (unfold rg; omega))⟩ (by (first | assumption | omega | (unfold rg; omega))) (by (first | assumption | omega | (unfold rg; omega))) (by rw [h1_1]; rfl) (by decide) dL_due_1 ?_
    have d := d1 h1_1
    have hpl := qPl a d.1.1 d.1.2
    refine v_aload (pc := 45) C 4 rfl dL_due_45 ?_
    refine v_bipush (pc := 47) C rfl dL_due_47 ?_
    refine v_iload_n (pc := 49) C 1 rfl rfl dL_due_49 ?_
    refine v_imul (pc := 50) C dL_due_50 ?_
    refine al_15 (pc := 51) C ⟨by (first | assumption | omega | (unfold rg; omega)), by (first | assumption | omega | (unfold rg; omega))⟩ dL_due_51 (g 15 0 0 (6 * a)) (rfl) ?_
    refine v_iload_n (pc := 52) C 2 rfl rfl dL_due_52 ?_
    refine v_iadd (pc := 53) C dL_due_53 ?_
    refine v_istore (pc := 54) C [(7, .int (iI ((g 15 0 0 (6 * a)) + b))), (0, .int (iI k)), (1, .int (iI a)), (2, .int (iI b)), (3, .ref (adr L 14 0 0)), (4, .ref (adr L 15 0 0)), (5, .ref (adr L 16 0 0)), (6, .ref (adr L 17 0 0))] (by decide) rfl dL_due_54 ?_
    refine v_iload (pc := 56) C 0 rfl dL_due_56 ?_
    refine v_if_lt (pc := 58) C 73 ⟨by (first | assumption | omega | (unfold rg; omega)), by (first | assumption | omega | (unfold rg; omega))⟩ (by decide) dL_due_58 (fun h58 => ?_) (fun h58 => ?_)
    · skip
      refine v_iconst (pc := 73) C dL_due_73 ?_
      refine v_istore (pc := 74) C [(8, .int (iI 0)), (7, .int (iI ((g 15 0 0 (6 * a)) + b))), (0, .int (iI k)), (1, .int (iI a)), (2, .int (iI b)), (3, .ref (adr L 14 0 0)), (4, .ref (adr L 15 0 0)), (5, .ref (adr L 16 0 0)), (6, .ref (adr L 17 0 0))] (by decide) rfl dL_due_74 ?_
      refine v_aload_n (pc := 76) C 5 rfl rfl dL_due_76 ?_
      refine v_bipush (pc := 77) C rfl dL_due_77 ?_
      refine v_dup2 (pc := 79) C rfl rfl dL_due_79 ?_
      refine al_14 (pc := 80) C ⟨by (first | assumption | omega | (unfold rg; omega)), by (first | assumption | omega | (unfold rg; omega))⟩ dL_due_80 (g 14 0 0 7) (rfl) ?_
      refine v_iload (pc := 81) C 0 rfl dL_due_81 ?_
      refine v_if_eq (pc := 83) C 90 ⟨by (first | assumption | omega | (unfold rg; omega)), by (first | assumption | omega | (unfold rg; omega))⟩ (by decide) dL_due_83 (fun h83 => ?_) (fun h83 => ?_)
      · skip
        refine v_iconst (pc := 90) C dL_due_90 ?_
        refine v_iadd (pc := 91) C dL_due_91 ?_
        refine as_14 (pc := 92) C ⟨by (first | assumption | omega | (unfold rg; omega)), by (first | assumption | omega | (unfold rg; omega))⟩ dL_due_92 ?_
        refine v_aload (pc := 93) C 6 rfl dL_due_93 ?_
        refine v_bipush (pc := 95) C rfl dL_due_95 ?_
        refine v_iload_n (pc := 97) C 3 rfl rfl dL_due_97 ?_
        refine v_imul (pc := 98) C dL_due_98 ?_
        refine v_iload (pc := 99) C 0 rfl dL_due_99 ?_
        refine v_if_eq (pc := 101) C 109 ⟨by (first | assumption | omega | (unfold rg; omega)), by (first | assumption | omega | (unfold rg; omega))⟩ (by decide) dL_due_101 (fun h101 => ?_) (fun h101 => ?_)
        · skip
          refine v_aload (pc := 109) C 6 rfl dL_due_109 ?_
          refine v_bipush (pc := 111) C rfl dL_due_111 ?_
          refine v_iload_n (pc := 113) C 3 rfl rfl dL_due_113 ?_
          refine v_imul (pc := 114) C dL_due_114 ?_
          refine al_15 (pc := 115) C ⟨by (first | assumption | omega | (unfold rg; omega)), by (first | assumption | omega | (unfold rg; omega))⟩ dL_due_115 (g 15 0 0 (6 * a)) (by simp [up]) ?_
          refine as_15 (pc := 116) C ⟨by (first | assumption | omega | (unfold rg; omega)), by (first | assumption | omega | (unfold rg; omega))⟩ dL_due_116 ?_
          refine v_iload (pc := 117) C 0 rfl dL_due_117 ?_
          refine v_if_eq (pc := 119) C 127 ⟨by (first | assumption | omega | (unfold rg; omega)), by (first | assumption | omega | (unfold rg; omega))⟩ (by decide) dL_due_119 (fun h119 => ?_) (fun h119 => ?_)
          · skip
            refine v_iconst (pc := 127) C dL_due_127 ?_
            exact v_iret (pc := 128) C hr hlk (⟨_, rfl, Or.inr (Or.inl ⟨h1_1, by unfold lvR; first | rw [if_pos ⟨by omega, by omega⟩] | rw [if_neg (by omega)], by unfold lvG; first | (rw [if_pos ⟨by omega, by omega⟩]; funext f' k' j' i'; simp only [up]; grind) | (rw [if_neg (by omega)]; funext f' k' j' i'; simp only [up]; grind)⟩)⟩) dL_due_128
          · skip
            exfalso; omega
        · skip
          exfalso; omega
      · skip
        exfalso; omega
    · skip
      refine v_iload (pc := 61) C 0 rfl dL_due_61 ?_
      refine v_aload_n (pc := 63) C 4 rfl rfl dL_due_63 ?_
      refine v_iconst (pc := 64) C dL_due_64 ?_
      refine al_14 (pc := 65) C ⟨by (first | assumption | omega | (unfold rg; omega)), by (first | assumption | omega | (unfold rg; omega))⟩ dL_due_65 (g 14 0 0 0) (rfl) ?_
      refine v_icmp_gt (pc := 66) C 73 ⟨by (first | assumption | omega | (unfold rg; omega)), by (first | assumption | omega | (unfold rg; omega))⟩ ⟨by (first | assumption | omega | (unfold rg; omega)), by (first | assumption | omega | (unfold rg; omega))⟩ (by decide) dL_due_66 (fun h66 => ?_) (fun h66 => ?_)
      · skip
        refine v_iconst (pc := 73) C dL_due_73 ?_
        refine v_istore (pc := 74) C [(8, .int (iI 0)), (7, .int (iI ((g 15 0 0 (6 * a)) + b))), (0, .int (iI k)), (1, .int (iI a)), (2, .int (iI b)), (3, .ref (adr L 14 0 0)), (4, .ref (adr L 15 0 0)), (5, .ref (adr L 16 0 0)), (6, .ref (adr L 17 0 0))] (by decide) rfl dL_due_74 ?_
        refine v_aload_n (pc := 76) C 5 rfl rfl dL_due_76 ?_
        refine v_bipush (pc := 77) C rfl dL_due_77 ?_
        refine v_dup2 (pc := 79) C rfl rfl dL_due_79 ?_
        refine al_14 (pc := 80) C ⟨by (first | assumption | omega | (unfold rg; omega)), by (first | assumption | omega | (unfold rg; omega))⟩ dL_due_80 (g 14 0 0 7) (rfl) ?_
        refine v_iload (pc := 81) C 0 rfl dL_due_81 ?_
        refine v_if_eq (pc := 83) C 90 ⟨by (first | assumption | omega | (unfold rg; omega)), by (first | assumption | omega | (unfold rg; omega))⟩ (by decide) dL_due_83 (fun h83 => ?_) (fun h83 => ?_)
        · skip
          refine v_iconst (pc := 90) C dL_due_90 ?_
          refine v_iadd (pc := 91) C dL_due_91 ?_
          refine as_14 (pc := 92) C ⟨by (first | assumption | omega | (unfold rg; omega)), by (first | assumption | omega | (unfold rg; omega))⟩ dL_due_92 ?_
          refine v_aload (pc := 93) C 6 rfl dL_due_93 ?_
          refine v_bipush (pc := 95) C rfl dL_due_95 ?_
          refine v_iload_n (pc := 97) C 3 rfl rfl dL_due_97 ?_
          refine v_imul (pc := 98) C dL_due_98 ?_
          refine v_iload (pc := 99) C 0 rfl dL_due_99 ?_
          refine v_if_eq (pc := 101) C 109 ⟨by (first | assumption | omega | (unfold rg; omega)), by (first | assumption | omega | (unfold rg; omega))⟩ (by decide) dL_due_101 (fun h101 => ?_) (fun h101 => ?_)
          · skip
            refine v_aload (pc := 109) C 6 rfl dL_due_109 ?_
            refine v_bipush (pc := 111) C rfl dL_due_111 ?_
            refine v_iload_n (pc := 113) C 3 rfl rfl dL_due_113 ?_
            refine v_imul (pc := 114) C dL_due_114 ?_
            refine al_15 (pc := 115) C ⟨by (first | assumption | omega | (unfold rg; omega)), by (first | assumption | omega | (unfold rg; omega))⟩ dL_due_115 (g 15 0 0 (6 * a)) (by simp [up]) ?_
            refine as_15 (pc := 116) C ⟨by (first | assumption | omega | (unfold rg; omega)), by (first | assumption | omega | (unfold rg; omega))⟩ dL_due_116 ?_
            refine v_iload (pc := 117) C 0 rfl dL_due_117 ?_
            refine v_if_eq (pc := 119) C 127 ⟨by (first | assumption | omega | (unfold rg; omega)), by (first | assumption | omega | (unfold rg; omega))⟩ (by decide) dL_due_119 (fun h119 => ?_) (fun h119 => ?_)
            · skip
              refine v_iconst (pc := 127) C dL_due_127 ?_
              exact v_iret (pc := 128) C hr hlk (⟨_, rfl, Or.inr (Or.inl ⟨h1_1, by unfold lvR; first | rw [if_pos ⟨by omega, by omega⟩] | rw [if_neg (by omega)], by unfold lvG; first | (rw [if_pos ⟨by omega, by omega⟩]; funext f' k' j' i'; simp only [up]; grind) | (rw [if_neg (by omega)]; funext f' k' j' i'; simp only [up]; grind)⟩)⟩) dL_due_128
            · skip
              exfalso; omega
          · skip
            exfalso; omega
        · skip
          exfalso; omega
      · skip
        refine v_iconst (pc := 69) C dL_due_69 ?_
        refine v_goto (pc := 70) C 74 (by decide) dL_due_70 ?_
        refine v_istore (pc := 74) C [(8, .int (iI 1)), (7, .int (iI ((g 15 0 0 (6 * a)) + b))), (0, .int (iI k)), (1, .int (iI a)), (2, .int (iI b)), (3, .ref (adr L 14 0 0)), (4, .ref (adr L 15 0 0)), (5, .ref (adr L 16 0 0)), (6, .ref (adr L 17 0 0))] (by decide) rfl dL_due_74 ?_
        refine v_aload_n (pc := 76) C 5 rfl rfl dL_due_76 ?_
        refine v_bipush (pc := 77) C rfl dL_due_77 ?_
        refine v_dup2 (pc := 79) C rfl rfl dL_due_79 ?_
        refine al_14 (pc := 80) C ⟨by (first | assumption | omega | (unfold rg; omega)), by (first | assumption | omega | (unfold rg; omega))⟩ dL_due_80 (g 14 0 0 7) (rfl) ?_
        refine v_iload (pc := 81) C 0 rfl dL_due_81 ?_
        refine v_if_eq (pc := 83) C 90 ⟨by (first | assumption | omega | (unfold rg; omega)), by (first | assumption | omega | (unfold rg; omega))⟩ (by decide) dL_due_83 (fun h83 => ?_) (fun h83 => ?_)
        · skip
          exfalso; omega
        · skip
          refine v_iconst (pc := 86) C dL_due_86 ?_
          refine v_goto (pc := 87) C 91 (by decide) dL_due_87 ?_
          refine v_iadd (pc := 91) C dL_due_91 ?_
          refine as_14 (pc := 92) C ⟨by (first | assumption | omega | (unfold rg; omega)), by (first | assumption | omega | (unfold rg; omega))⟩ dL_due_92 ?_
          refine v_aload (pc := 93) C 6 rfl dL_due_93 ?_
          refine v_bipush (pc := 95) C rfl dL_due_95 ?_
          refine v_iload_n (pc := 97) C 3 rfl rfl dL_due_97 ?_
          refine v_imul (pc := 98) C dL_due_98 ?_
          refine v_iload (pc := 99) C 0 rfl dL_due_99 ?_
          refine v_if_eq (pc := 101) C 109 ⟨by (first | assumption | omega | (unfold rg; omega)), by (first | assumption | omega | (unfold rg; omega))⟩ (by decide) dL_due_101 (fun h101 => ?_) (fun h101 => ?_)
          · skip
            exfalso; omega
          · skip
            refine v_iload (pc := 104) C 1 rfl dL_due_104 ?_
            refine v_goto (pc := 106) C 116 (by decide) dL_due_106 ?_
            refine as_15 (pc := 116) C ⟨by (first | assumption | omega | (unfold rg; omega)), by (first | assumption | omega | (unfold rg; omega))⟩ dL_due_116 ?_
            refine v_iload (pc := 117) C 0 rfl dL_due_117 ?_
            refine v_if_eq (pc := 119) C 127 ⟨by (first | assumption | omega | (unfold rg; omega)), by (first | assumption | omega | (unfold rg; omega))⟩ (by decide) dL_due_119 (fun h119 => ?_) (fun h119 => ?_)
            · skip
              exfalso; omega
            · skip
              refine v_iload (pc := 122) C 1 rfl dL_due_122 ?_
              refine v_goto (pc := 124) C 128 (by decide) dL_due_124 ?_
              exact v_iret (pc := 128) C hr hlk (⟨_, rfl, Or.inr (Or.inl ⟨h1_1, by unfold lvR; first | rw [if_pos ⟨by omega, by omega⟩] | rw [if_neg (by omega)], by unfold lvG; first | (rw [if_pos ⟨by omega, by omega⟩]; funext f' k' j' i'; simp only [up]; grind) | (rw [if_neg (by omega)]; funext f' k' j' i'; simp only [up]; grind)⟩)⟩) dL_due_128
  by_cases h1_2 : k = 2
  · skip
    refine v_tableIn (pc := 1) (o := 128) C 129 ⟨by (first | assumption | omega | (unfold rg; omega)), by (first | assumption | omega | (unfold rg; omega))⟩ (by (first | assumption | omega | (unfold rg; omega))) (by (first | assumption | omega | (unfold rg; omega))) (by rw [h1_2]; rfl) (by decide) dL_due_1 ?_
    have d := d2 h1_2
    refine v_aload_n (pc := 129) C 3 rfl rfl dL_due_129 ?_
    refine v_iconst (pc := 130) C dL_due_130 ?_
    refine al_14 (pc := 131) C ⟨by (first | assumption | omega | (unfold rg; omega)), by (first | assumption | omega | (unfold rg; omega))⟩ dL_due_131 (g 14 0 0 4) (rfl) ?_
    refine v_istore (pc := 132) C [(9, .int (iI (g 14 0 0 4))), (0, .int (iI k)), (1, .int (iI a)), (2, .int (iI b)), (3, .ref (adr L 14 0 0)), (4, .ref (adr L 15 0 0)), (5, .ref (adr L 16 0 0)), (6, .ref (adr L 17 0 0))] (by decide) rfl dL_due_132 ?_
    refine v_aload_n (pc := 134) C 4 rfl rfl dL_due_134 ?_
    refine v_iconst (pc := 135) C dL_due_135 ?_
    refine v_iload_n (pc := 136) C 2 rfl rfl dL_due_136 ?_
    refine as_14 (pc := 137) C ⟨by (first | assumption | omega | (unfold rg; omega)), by (first | assumption | omega | (unfold rg; omega))⟩ dL_due_137 ?_
    refine v_aload_n (pc := 138) C 4 rfl rfl dL_due_138 ?_
    refine v_iconst (pc := 139) C dL_due_139 ?_
    refine v_iconst (pc := 140) C dL_due_140 ?_
    refine v_iload_n (pc := 141) C 3 rfl rfl dL_due_141 ?_
    refine v_bipush (pc := 142) C rfl dL_due_142 ?_
    refine v_calliS (pc := 144) C cw_RL_101 (ct_L_low l L (up g 14 0 0 4 a) b 9 (by unfold rg; omega) (by first | assumption | omega | (unfold rg; omega))) ⟨Nat.le_of_ble_eq_true rfl, Nat.le_of_ble_eq_true rfl⟩ rfl (Nat.le_of_ble_eq_true rfl) ⟨Nat.le_of_ble_eq_true rfl, Nat.le_of_ble_eq_true rfl⟩ rfl dL_due_144 (fun r9 u9 hP_2 => ?_)
    obtain ⟨hP_2, hP_2b⟩ := hP_2
    rw [hP_2, hP_2b]
    clear hP_2 hP_2b r9 u9
    refine v_iadd (pc := 147) C dL_due_147 ?_
    refine as_14 (pc := 148) C ⟨by (first | assumption | omega | (unfold rg; omega)), by (first | assumption | omega | (unfold rg; omega))⟩ dL_due_148 ?_
    refine v_aload_n (pc := 149) C 4 rfl rfl dL_due_149 ?_
    refine v_bipush (pc := 150) C rfl dL_due_150 ?_
    refine v_iload_n (pc := 152) C 3 rfl rfl dL_due_152 ?_
    refine v_iconst (pc := 153) C dL_due_153 ?_
    refine v_calliS (pc := 154) C cw_RL_101 (ct_L_low l L (up (up g 14 0 0 4 a) 14 0 0 5 (1 + (lw b 9))) b 2 (by unfold rg; omega) (by first | assumption | omega | (unfold rg; omega))) ⟨Nat.le_of_ble_eq_true rfl, Nat.le_of_ble_eq_true rfl⟩ rfl (Nat.le_of_ble_eq_true rfl) ⟨Nat.le_of_ble_eq_true rfl, Nat.le_of_ble_eq_true rfl⟩ rfl dL_due_154 (fun r9 u9 hP_3 => ?_)
    obtain ⟨hP_3, hP_3b⟩ := hP_3
    rw [hP_3, hP_3b]
    clear hP_3 hP_3b r9 u9
    refine v_if_ne (pc := 157) C 164 ⟨by (first | assumption | omega | (unfold rg; omega)), by (first | assumption | omega | (unfold rg; omega))⟩ (by decide) dL_due_157 (fun h157 => ?_) (fun h157 => ?_)
    · skip
      refine v_iconst (pc := 164) C dL_due_164 ?_
      refine as_14 (pc := 165) C ⟨by (first | assumption | omega | (unfold rg; omega)), by (first | assumption | omega | (unfold rg; omega))⟩ dL_due_165 ?_
      refine v_iload (pc := 166) C 0 rfl dL_due_166 ?_
      exact v_iret (pc := 168) C hr hlk (⟨_, rfl, Or.inr (Or.inr (Or.inl ⟨h1_2, rfl, by first | rw [if_pos (by omega)] | rw [if_neg (by omega)]⟩))⟩) dL_due_168
    · skip
      refine v_iconst (pc := 160) C dL_due_160 ?_
      refine v_goto (pc := 161) C 165 (by decide) dL_due_161 ?_
      refine as_14 (pc := 165) C ⟨by (first | assumption | omega | (unfold rg; omega)), by (first | assumption | omega | (unfold rg; omega))⟩ dL_due_165 ?_
      refine v_iload (pc := 166) C 0 rfl dL_due_166 ?_
      exact v_iret (pc := 168) C hr hlk (⟨_, rfl, Or.inr (Or.inr (Or.inl ⟨h1_2, rfl, by first | rw [if_pos (by omega)] | rw [if_neg (by omega)]⟩))⟩) dL_due_168
  by_cases h1_3 : k = 3
  · skip
    refine v_tableIn (pc := 1) (o := 168) C 169 ⟨by (first | assumption | omega | (unfold rg; omega)), by (first | assumption | omega | (unfold rg; omega))⟩ (by (first | assumption | omega | (unfold rg; omega))) (by (first | assumption | omega | (unfold rg; omega))) (by rw [h1_3]; rfl) (by decide) dL_due_1 ?_
    have d := d3 h1_3
    refine v_aload_n (pc := 169) C 3 rfl rfl dL_due_169 ?_
    refine v_iload_n (pc := 170) C 1 rfl rfl dL_due_170 ?_
    refine al_14 (pc := 171) C ⟨by (first | assumption | omega | (unfold rg; omega)), by (first | assumption | omega | (unfold rg; omega))⟩ dL_due_171 (g 14 0 0 a) (rfl) ?_
    refine v_istore (pc := 172) C [(10, .int (iI (g 14 0 0 a))), (0, .int (iI k)), (1, .int (iI a)), (2, .int (iI b)), (3, .ref (adr L 14 0 0)), (4, .ref (adr L 15 0 0)), (5, .ref (adr L 16 0 0)), (6, .ref (adr L 17 0 0))] (by decide) rfl dL_due_172 ?_
    refine v_iload_n (pc := 174) C 2 rfl rfl dL_due_174 ?_
    refine v_if_ne (pc := 175) C 193 ⟨by (first | assumption | omega | (unfold rg; omega)), by (first | assumption | omega | (unfold rg; omega))⟩ (by decide) dL_due_175 (fun h175 => ?_) (fun h175 => ?_)
    · skip
      refine v_aload_n (pc := 193) C 4 rfl rfl dL_due_193 ?_
      refine v_iload_n (pc := 194) C 2 rfl rfl dL_due_194 ?_
      refine v_iload_n (pc := 195) C 3 rfl rfl dL_due_195 ?_
      refine as_14 (pc := 196) C ⟨by (first | assumption | omega | (unfold rg; omega)), by (first | assumption | omega | (unfold rg; omega))⟩ dL_due_196 ?_
      refine v_iload (pc := 197) C 0 rfl dL_due_197 ?_
      exact v_iret (pc := 199) C hr hlk (⟨_, rfl, Or.inr (Or.inr (Or.inr (Or.inl ⟨h1_3, Or.inr ⟨rfl, rfl, by first | exact fun _ => hrm | exact fun hx => absurd hx (by assumption)⟩⟩)))⟩) dL_due_199
    · skip
      refine v_iload_n (pc := 178) C 3 rfl rfl dL_due_178 ?_
      refine v_aload_n (pc := 179) C 4 rfl rfl dL_due_179 ?_
      refine v_aload (pc := 180) C 5 rfl dL_due_180 ?_
      refine v_aload (pc := 182) C 7 rfl dL_due_182 ?_
      refine v_calliS (pc := 184) C cw_RL_115 (ct_L_hasRoom l L g b (by exact hq) (by omega)) ⟨Nat.le_of_ble_eq_true rfl, Nat.le_of_ble_eq_true rfl⟩ rfl (Nat.le_of_ble_eq_true rfl) ⟨Nat.le_of_ble_eq_true rfl, Nat.le_of_ble_eq_true rfl⟩ rfl dL_due_184 (fun r9 u9 hP_4 => ?_)
      obtain ⟨hP_4, hP_4b⟩ := hP_4
      rw [hP_4, hP_4b]
      clear hP_4 hP_4b r9 u9
      refine v_if_ne (pc := 187) C 193 ⟨by split <;> decide, by split <;> decide⟩ (by decide) dL_due_187 (fun h187 => ?_) (fun h187 => ?_)
      · skip
        have hrm : lrm g b := Decidable.byContradiction (fun hx => by rw [if_neg hx] at h187; exact absurd rfl h187)
        refine v_aload_n (pc := 193) C 4 rfl rfl dL_due_193 ?_
        refine v_iload_n (pc := 194) C 2 rfl rfl dL_due_194 ?_
        refine v_iload_n (pc := 195) C 3 rfl rfl dL_due_195 ?_
        refine as_14 (pc := 196) C ⟨by (first | assumption | omega | (unfold rg; omega)), by (first | assumption | omega | (unfold rg; omega))⟩ dL_due_196 ?_
        refine v_iload (pc := 197) C 0 rfl dL_due_197 ?_
        exact v_iret (pc := 199) C hr hlk (⟨_, rfl, Or.inr (Or.inr (Or.inr (Or.inl ⟨h1_3, Or.inr ⟨rfl, rfl, by first | exact fun _ => hrm | exact fun hx => absurd hx (by assumption)⟩⟩)))⟩) dL_due_199
      · skip
        have hrm : ¬ lrm g b := fun hx => h187 (by rw [if_pos hx]; decide)
        refine v_bipush (pc := 190) C rfl dL_due_190 ?_
        exact v_iret (pc := 192) C hr hlk (⟨_, rfl, Or.inr (Or.inr (Or.inr (Or.inl ⟨h1_3, Or.inl ⟨rfl, rfl, by omega, hrm⟩⟩)))⟩) dL_due_192
  refine v_tableOut (pc := 1) C 200 ⟨by (first | assumption | omega | (unfold rg; omega)), by (first | assumption | omega | (unfold rg; omega))⟩ (by (first | assumption | omega | (unfold rg; omega))) (by decide) dL_due_1 ?_
  have d := d4 (by omega)
  refine v_iload_n (pc := 200) C 1 rfl rfl dL_due_200 ?_
  refine v_aload_n (pc := 201) C 3 rfl rfl dL_due_201 ?_
  refine v_aload (pc := 202) C 4 rfl dL_due_202 ?_
  refine v_aload (pc := 204) C 5 rfl dL_due_204 ?_
  refine v_aload (pc := 206) C 6 rfl dL_due_206 ?_
  refine v_calliS (pc := 208) C cw_RL_119 (ct_L_passes l L g a (by omega) (by exact hq) (by exact d.2.1) (by exact d.2.2)) ⟨Nat.le_of_ble_eq_true rfl, Nat.le_of_ble_eq_true rfl⟩ rfl (Nat.le_of_ble_eq_true rfl) ⟨Nat.le_of_ble_eq_true rfl, Nat.le_of_ble_eq_true rfl⟩ rfl dL_due_208 (fun r9 u_6 hP_5 => ?_)
  obtain ⟨z_7, rfl, hP_5⟩ := hP_5
  exact v_iret (pc := 211) C hr hlk (⟨_, rfl, Or.inr (Or.inr (Or.inr (Or.inr ⟨by omega, hP_5⟩)))⟩) dL_due_211
