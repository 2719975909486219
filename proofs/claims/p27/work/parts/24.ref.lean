/-! the reference: one row of numbers -/
def okM (s : Int → Int) (d e : Int) : Prop := (0 ≤ s (34 + 5 * e + 0) ∧ s (34 + 5 * e + 0) < 4) ∧ (0 ≤ s (34 + 5 * e + 1) ∧ s (34 + 5 * e + 1) ≤ s 0) ∧ (0 ≤ s (34 + 5 * e + 2) ∧ s (34 + 5 * e + 2) ≤ 9) ∧ (s 3 + d ≤ s (34 + 5 * e + 3) ∧ s (34 + 5 * e + 3) ≤ s 3 + 200) ∧ (s (34 + 5 * e + 4) = 0 ∨ s (34 + 5 * e + 4) = 1)
def wm (s : Int → Int) (d : Int) : Prop := (8 ≤ s 0 ∧ s 0 ≤ 40) ∧ (1 ≤ s 1 ∧ s 1 ≤ 9) ∧ (0 ≤ s 2 ∧ s 2 ≤ 5) ∧ (0 ≤ s 4 ∧ s 4 ≤ s 0) ∧ (1 ≤ s 5 ∧ s 5 ≤ 9) ∧ (s 6 = 0 ∨ s 6 = 1) ∧ (0 ≤ s 3 ∧ s 3 ≤ 100000) ∧ (0 ≤ s 9 ∧ s 9 ≤ 24) ∧ (∀ p, 0 ≤ p → p < 4 → 0 ≤ s (10 + 6 * p + 0) ∧ s (10 + 6 * p + 0) ≤ s 0) ∧ (∀ e, 0 ≤ e → e < s 9 → okM s d e)
def mOf (g : St) (p : Int) : Int → Bool := fun e => decide (g 15 0 0 (34 + 5 * e + 0) = p)
def mDu (g : St) (p t : Int) : Int → Bool := fun e => decide (g 15 0 0 (34 + 5 * e + 1) = p ∧ g 15 0 0 (34 + 5 * e + 3) = t)
abbrev mUw (g : St) (p : Int) : Int := cn (mOf g p) (g 15 0 0 9).toNat
abbrev mCo (g : St) (p t : Int) : Int := cn (mDu g p t) (g 15 0 0 9).toNat
abbrev mDl (g : St) (p w : Int) : Int := dly (g 15 0 0 0) (g 15 0 0 1) (g 15 0 0 2) p w
theorem mDl_in {g : St} {d p w : Int} (h : wm (g 15 0 0) d) (hp : 0 ≤ p ∧ p ≤ g 15 0 0 0) : 1 ≤ mDl g p w ∧ mDl g p w ≤ 100 := dly_in h.1.2 h.2.1 h.2.2.1 hp
def shM (g : St) (n : Int) : St := fun f k j x => if f = 16 ∧ k = 0 ∧ j = 0 ∧ (0 ≤ x ∧ x < n) then g 16 0 0 (x + 154) else g f k j x
def cpM (g : St) (m n : Int) : St := fun f k j x => if f = 16 ∧ k = 0 ∧ j = 0 ∧ (m * 154 ≤ x ∧ x < m * 154 + n) then g 15 0 0 (x - m * 154) else g f k j x
theorem shM_0 (g : St) : shM g 0 = g := by funext f k j x; simp only [shM]; rw [if_neg (by omega)]
theorem shM_s (g : St) (i : Int) (h : 0 ≤ i) : up (shM g i) 16 0 0 i (g 16 0 0 (i + 154)) = shM g (i + 1) := by
  funext f k j x; simp only [shM, up]; grind
theorem cpM_0 (g : St) (m : Int) : cpM g m 0 = g := by funext f k j x; simp only [cpM]; rw [if_neg (by omega)]
theorem cpM_s (g : St) (m i : Int) (h : 0 ≤ i) : up (cpM g m i) 16 0 0 (m * 154 + i) (g 15 0 0 i) = cpM g m (i + 1) := by
  funext f k j x; simp only [cpM, up]
  by_cases hx : x = m * 154 + i
  · subst hx; rw [show m * 154 + i - m * 154 = i by omega]; grind
  · grind
def svA (g : St) : St := if g 14 0 0 3 = 6 then up (shM g 770) 14 0 0 3 (g 14 0 0 3 - 1) else g
def svM (g : St) : St := up (cpM (svA g) (svA g 14 0 0 3) 154) 14 0 0 3 (svA g 14 0 0 3 + 1)
theorem svA_3 {g : St} (h : 0 ≤ g 14 0 0 3 ∧ g 14 0 0 3 ≤ 6) : 0 ≤ svA g 14 0 0 3 ∧ svA g 14 0 0 3 ≤ 5 := by
  unfold svA; split
  · rw [up_s]; omega
  · omega
def mbG (g : St) (n : Nat) : St := up (up g 14 0 0 12 (bwalk (g 15 0 0 0) n (g 14 0 0 12, g 14 0 0 13)).1) 14 0 0 13 (bwalk (g 15 0 0 0) n (g 14 0 0 12, g 14 0 0 13)).2
theorem mb_0 (g : St) : mbG g 0 = g := by funext f k j x; simp only [mbG, bwalk, up]; grind
theorem mb_s (g : St) (n : Nat) {r p : Int} (hr : r = stepR (bwalk (g 15 0 0 0) n (g 14 0 0 12, g 14 0 0 13)).1 (bwalk (g 15 0 0 0) n (g 14 0 0 12, g 14 0 0 13)).2 (g 15 0 0 0)) (hp : p = stepP (bwalk (g 15 0 0 0) n (g 14 0 0 12, g 14 0 0 13)).1 (bwalk (g 15 0 0 0) n (g 14 0 0 12, g 14 0 0 13)).2 (g 15 0 0 0)) : up (up (mbG g n) 14 0 0 13 r) 14 0 0 12 p = mbG g (n + 1) := by
  have h1 : (bwalk (g 15 0 0 0) (n + 1) (g 14 0 0 12, g 14 0 0 13)).1 = p := by rw [hp]; rfl
  have h2 : (bwalk (g 15 0 0 0) (n + 1) (g 14 0 0 12, g 14 0 0 13)).2 = r := by rw [hr]; rfl
  unfold mbG
  rw [h1, h2]
  funext f k j x; simp only [up]; grind
def adM (g : St) (p w y : Int) : St := up (up (up (up (up (up g 15 0 0 (34 + 5 * g 15 0 0 9 + 0) p) 15 0 0 (34 + 5 * g 15 0 0 9 + 1) (g 15 0 0 (10 + 6 * p + 0))) 15 0 0 (34 + 5 * g 15 0 0 9 + 2) w) 15 0 0 (34 + 5 * g 15 0 0 9 + 3) (g 15 0 0 3 + mDl g (g 15 0 0 (10 + 6 * p + 0)) y)) 15 0 0 (34 + 5 * g 15 0 0 9 + 4) y) 15 0 0 9 (g 15 0 0 9 + 1)
abbrev mvOM (g : St) (p b : Int) : Prop := g 15 0 0 (10 + 6 * p + 0) + b < 0 ∨ g 15 0 0 0 < g 15 0 0 (10 + 6 * p + 0) + b
def mvRM (g : St) (p b : Int) : Int := if mvOM g p b then -1 else g 15 0 0 (10 + 6 * p + 0) + b
def mvGM (g : St) (p b : Int) : St := if mvOM g p b then up g 15 0 0 7 (g 15 0 0 7 + 1) else up g 15 0 0 (10 + 6 * p + 0) (g 15 0 0 (10 + 6 * p + 0) + b)

/-! the reference: what it tells -/
theorem z1_rg {c : Prop} [Decidable c] : rg (if c then (1 : Int) else 0) := ⟨by split <;> decide, by split <;> decide⟩
theorem z1_net {c : Prop} [Decidable c] (h : (if c then (1 : Int) else 0) ≠ 0) : c := Decidable.byContradiction (fun hn => h (if_neg hn))
theorem z1_nef {c : Prop} [Decidable c] (h : ¬ (if c then (1 : Int) else 0) ≠ 0) : ¬ c := fun hc => h (by rw [if_pos hc]; decide)
theorem z1_eqt {c : Prop} [Decidable c] (h : (if c then (1 : Int) else 0) = 0) : ¬ c := fun hc => by rw [if_pos hc] at h; exact absurd h (by decide)
theorem z1_eqf {c : Prop} [Decidable c] (h : ¬ (if c then (1 : Int) else 0) = 0) : c := Decidable.byContradiction (fun hn => h (if_neg hn))
abbrev t0 (g : St) : St := up g 14 0 0 0 0
abbrev er (g : St) (c : Int) : St := up (up g 14 0 0 0 0) 14 0 0 0 c
theorem t0_f {g : St} {f : Nat} (h : f ≠ 14) : t0 g f = g f := up_ff h
def mpl (g : St) (p w : Int) : Int := if w < 3 then g 15 0 0 (10 + 6 * p + w) else if w = 3 then mUw g p else g 15 0 0 (10 + 6 * p + (w - 1))
def sumM (g : St) (w : Int) : Int := g 15 0 0 (10 + 6 * 0 + w) + g 15 0 0 (10 + 6 * 1 + w) + g 15 0 0 (10 + 6 * 2 + w) + g 15 0 0 (10 + 6 * 3 + w)
def mCt (g : St) (w : Int) : Int := if w = 0 then g 15 0 0 3 else if w = 1 then g 15 0 0 4 else if w = 2 then g 15 0 0 5 else if w = 3 then g 15 0 0 6 else if w = 4 then g 15 0 0 9 else if w = 5 then g 15 0 0 8 else if w = 6 then sumM g 3 else if w = 7 then sumM g 4 else if w = 8 then sumM g 5 else if w = 9 then sumM g 1 else if w = 10 then g 15 0 0 7 else g 14 0 0 3
abbrev mD1 (g : St) (p w : Int) : Int := mDl g (g 15 0 0 (10 + 6 * p + 0)) w
abbrev mIs (g : St) (p w t : Int) : Prop := mD1 g p 0 = mD1 g p 1 ∨ 0 < mCo g (g 15 0 0 (10 + 6 * p + 0)) (g 15 0 0 3 + (t + mD1 g p w))
abbrev mUn (g : St) (n : Int) : Int := unf (g 15 0 0 4) 1 (g 15 0 0 6) n (g 15 0 0 0)
abbrev mMe (g : St) (p w t : Int) : Prop := ¬ mIs g p w t ∧ mUn g ((t + mD1 g p w) * g 15 0 0 5) = g 15 0 0 (10 + 6 * p + 0)
def mMB (g : St) (p : Int) : Int → Bool := fun t => decide (mMe g p 0 t ∨ mMe g p 1 t)
def mBw (g : St) (p : Int) : Int := frst (mMB g p) 61 0
def mQu (g : St) : Int := mxN (fun i => g 15 0 0 (34 + 5 * i + 3)) (g 15 0 0 9).toNat (g 15 0 0 3)
abbrev mBe (g : St) (p q : Int) : Prop := 0 < g 15 0 0 (10 + 6 * q + 1) - g 15 0 0 (10 + 6 * p + 1) ∨ (g 15 0 0 (10 + 6 * q + 1) - g 15 0 0 (10 + 6 * p + 1) = 0 ∧ g 15 0 0 (10 + 6 * p + 3) < g 15 0 0 (10 + 6 * q + 3))
def mBs (g : St) : Nat → Int
  | 0 => 0
  | n + 1 => if n = 0 then 0 else if mBe g (mBs g n) n then n else mBs g n
theorem mBs_in (g : St) : ∀ n : Nat, 0 ≤ mBs g n ∧ (mBs g n < n ∨ mBs g n = 0)
  | 0 => ⟨by simp [mBs], Or.inr rfl⟩
  | n + 1 => by
    have ih := mBs_in g n
    rw [mBs]; (repeat' split) <;> omega
theorem mBs_s (g : St) {i : Int} (h : 1 ≤ i) : mBs g (i + 1).toNat = if mBe g (mBs g i.toNat) i then i else mBs g i.toNat := by
  rw [show (i + 1).toNat = i.toNat + 1 by omega, mBs, if_neg (by omega), show ((i.toNat : Nat) : Int) = i by omega]
theorem mUw_in (g : St) (p : Int) : 0 ≤ mUw g p ∧ mUw g p ≤ (g 15 0 0 9).toNat := cn_nn _ _
theorem mCo_in (g : St) (p t : Int) : 0 ≤ mCo g p t ∧ mCo g p t ≤ (g 15 0 0 9).toNat := cn_nn _ _
def ctM (g : St) : Prop := ∀ x, 7 ≤ x → x < 34 → 0 ≤ g 15 0 0 x ∧ g 15 0 0 x ≤ 100000000
/-- the rank -/
abbrev bef (g : St) (i e : Int) : Prop := g 15 0 0 (34 + 5 * e + 3) - g 15 0 0 (34 + 5 * i + 3) < 0 ∨ (g 15 0 0 (34 + 5 * e + 3) - g 15 0 0 (34 + 5 * i + 3) = 0 ∧ e < i)
def rk (g : St) (i : Int) : Int := cn (fun e => decide (bef g i e)) (g 15 0 0 9).toNat
def eaM (g : St) (r : Int) : Nat → Int
  | 0 => -1
  | n + 1 => if rk g n = r then n else eaM g r n
theorem eaM_s (g : St) {r i : Int} (h : 0 ≤ i) : eaM g r (i + 1).toNat = if rk g i = r then i else eaM g r i.toNat := by
  rw [show (i + 1).toNat = i.toNat + 1 by omega, eaM, show ((i.toNat : Nat) : Int) = i by omega]
theorem eaM_in (g : St) (r : Int) : ∀ n : Nat, -1 ≤ eaM g r n ∧ (eaM g r n < n)
  | 0 => ⟨by simp [eaM], by simp [eaM]⟩
  | n + 1 => by have ih := eaM_in g r n; rw [eaM]; split <;> omega
def mEt (g : St) (r w : Int) : Int := let i := eaM g r (g 15 0 0 9).toNat; if i = -1 then -1 else if w = 3 then g 15 0 0 (34 + 5 * i + 3) - g 15 0 0 3 else if w = 4 then g 15 0 0 (34 + 5 * i + 4) else if w = 5 then (if 1 < mCo g (g 15 0 0 (34 + 5 * i + 1)) (g 15 0 0 (34 + 5 * i + 3)) then 1 else 0) else g 15 0 0 (34 + 5 * i + w)
def mbT (g : St) : St := up (up g 14 0 0 12 (g 15 0 0 4)) 14 0 0 13 (g 15 0 0 6)
def mbM (g : St) (t : Int) : St := mbG (mbT g) (t * g 15 0 0 5).toNat
def mbA (g : St) (t w : Int) : Int := if w = 0 then mbM g t 14 0 0 12 else if w = 1 then mUn g (t * g 15 0 0 5) else mbM g t 14 0 0 13
theorem mbG_f (g : St) (n : Nat) {f : Nat} (h : f ≠ 14) : mbG g n f = g f := by unfold mbG; rw [up_ff h, up_ff h]
theorem mbM_f (g : St) (t : Int) {f : Nat} (h : f ≠ 14) : mbM g t f = g f := by unfold mbM mbT; rw [mbG_f _ _ h, up_ff h, up_ff h]
theorem mbM_in {g : St} {d t : Int} (h : wm (g 15 0 0) d) : (0 ≤ mbM g t 14 0 0 12 ∧ mbM g t 14 0 0 12 ≤ g 15 0 0 0) ∧ (mbM g t 14 0 0 13 = 0 ∨ mbM g t 14 0 0 13 = 1) := by
  obtain ⟨mS0, mS1, mS2, mB0, mB1, mB2, -⟩ := h
  have hb := bwalk_in (last := g 15 0 0 0) (by omega) (q := (g 15 0 0 4, g 15 0 0 6)) mB0 mB2 (t * g 15 0 0 5).toNat
  have e1 : mbM g t 14 0 0 12 = (bwalk (g 15 0 0 0) (t * g 15 0 0 5).toNat (g 15 0 0 4, g 15 0 0 6)).1 := by simp [mbM, mbT, mbG, up]
  have e2 : mbM g t 14 0 0 13 = (bwalk (g 15 0 0 0) (t * g 15 0 0 5).toNat (g 15 0 0 4, g 15 0 0 6)).2 := by simp [mbM, mbT, mbG, up]
  rw [e1, e2]; exact hb

/-! the reference: its public looks, and its buffer -/
theorem wm_t0 {g : St} {d : Int} (h : wm (g 15 0 0) d) : wm (t0 g 15 0 0) d := by rw [t0_f (by decide)]; exact h
theorem ctM_t0 {g : St} (h : ctM g) : ctM (t0 g) := by unfold ctM; rw [t0_f (by decide)]; exact h

def wb (g : St) : Prop := (0 ≤ g 14 0 0 7 ∧ g 14 0 0 7 ≤ 60) ∧ (0 ≤ g 14 0 0 8 ∧ g 14 0 0 8 ≤ 100) ∧ ∀ i, 0 ≤ i → i < 60 → 0 ≤ g 19 0 0 i ∧ g 19 0 0 i ≤ 126
def nx (g : St) : Int := if g 14 0 0 8 < g 14 0 0 7 then g 19 0 0 (g 14 0 0 8) else 0
theorem nx_in {g : St} (h : wb g) : 0 ≤ nx g ∧ nx g ≤ 126 := by
  obtain ⟨h1, h2, h3⟩ := h
  unfold nx; split
  · exact h3 _ (by omega) (by omega)
  · omega
theorem nx_at {g : St} (h : nx g ≠ 0) : g 14 0 0 8 < g 14 0 0 7 := by
  unfold nx at h; split at h
  · assumption
  · exact absurd rfl h
def atS (g : St) : St := up g 14 0 0 8 (g 14 0 0 8 + 1)
def dgR (g : St) (a b : Int) : Int := if a ≤ nx g - 48 ∧ nx g - 48 ≤ b then nx g - 48 else -1
def dgG (g : St) (a b : Int) : St := if a ≤ nx g - 48 ∧ nx g - 48 ≤ b then atS g else g
def tkG (g : St) (c : Int) : St := if nx g = c then atS g else g
theorem wb_ad {g : St} (h : wb g) (h2 : nx g ≠ 0) : wb (atS g) := by
  have ha := nx_at h2
  obtain ⟨h1, h2, h3⟩ := h
  refine ⟨by simp [atS, up]; omega, by simp [atS, up]; omega, fun i h0 h6 => ?_⟩
  have := h3 i h0 h6
  simpa [atS, up] using this
theorem wb_dg {g : St} {a b : Int} (h : wb g) (ha : 0 ≤ a) : wb (dgG g a b) := by
  unfold dgG; split
  · exact wb_ad h (by omega)
  · exact h
theorem wb_tk {g : St} {c : Int} (h : wb g) (hc : 0 < c) : wb (tkG g c) := by
  unfold tkG; split
  · exact wb_ad h (by omega)
  · exact h
theorem wb_up {g : St} {q v : Int} (h : wb g) (h7 : q ≠ 7) (h8 : q ≠ 8) : wb (up g 14 0 0 q v) := by
  unfold wb at *
  rw [up_i (Ne.symm h7), up_i (Ne.symm h8), up_ff (by decide)]
  exact h
theorem dgR_in {g : St} {a b : Int} (ha : 0 ≤ a) (hb : b ≤ 9) : -1 ≤ dgR g a b ∧ dgR g a b ≤ 9 := by
  unfold dgR; split <;> omega

def fsB (g : St) (a b : Int) : St := up (dgG g a b) 14 0 0 10 (dgR g a b)
def snB (g : St) (a b s : Int) : St := up (dgG g a b) 14 0 0 11 (s * dgR g a b)
def rcG (g : St) : St := if dgR g 0 3 = -1 then fsB g 0 3 else if nx (fsB g 0 3) = 61 then snB (tkG (fsB g 0 3) 61) 0 9 1 else fsB g 0 3
def rcR (g : St) : Int := if dgR g 0 3 = -1 then 0 else if nx (fsB g 0 3) = 61 then (if dgR (tkG (fsB g 0 3) 61) 0 9 = -1 then 0 else 1) else 0
def rwG (g : St) : St := if dgR g 0 3 = -1 then fsB g 0 3 else if nx (fsB g 0 3) = 43 then snB (tkG (fsB g 0 3) 43) 1 9 1 else if nx (fsB g 0 3) = 45 then snB (tkG (fsB g 0 3) 45) 1 9 (-1) else fsB g 0 3
def rwR (g : St) : Int := if dgR g 0 3 = -1 then 0 else if nx (fsB g 0 3) = 43 then (if dgR (tkG (fsB g 0 3) 43) 1 9 = -1 then 0 else 1) else if nx (fsB g 0 3) = 45 then (if dgR (tkG (fsB g 0 3) 45) 1 9 = -1 then 0 else 1) else 0
def rtG (g : St) : St := if dgR g 1 9 = -1 then up (fsB g 1 9) 14 0 0 10 (dgR g 1 9) else if dgR (fsB g 1 9) 0 9 = -1 then up (dgG (fsB g 1 9) 0 9) 14 0 0 10 (dgR g 1 9) else up (dgG (fsB g 1 9) 0 9) 14 0 0 10 (10 * dgR g 1 9 + dgR (fsB g 1 9) 0 9)
def rtR (g : St) : Int := if dgR g 1 9 = -1 then 0 else 1
theorem wb_fsB {g : St} {a b : Int} (h : wb g) (ha : 0 ≤ a) : wb (fsB g a b) := wb_up (wb_dg h ha) (by decide) (by decide)
theorem tkG_no {g : St} {c : Int} (h : nx g ≠ c) : tkG g c = g := if_neg h
theorem dg_10 (g : St) (a b v : Int) : dgG (up g 14 0 0 10 v) a b 14 0 0 10 = v := by
  unfold dgG atS; split
  · rw [up_i (by decide), up_s]
  · rw [up_s]

/-! the reference: the text's end -/
def ltG (g : St) : St := up g 14 0 0 9 (nx g)
def roG (g : St) : St := if nx g = 99 then rcG (atS (ltG g)) else if nx g = 109 then rwG (atS (ltG g)) else if nx g = 116 then rtG (atS (ltG g)) else ltG g
def roR (g : St) : Int := if nx g = 99 then rcR (atS (ltG g)) else if nx g = 109 then rwR (atS (ltG g)) else if nx g = 116 then rtR (atS (ltG g)) else 0
def fe : Nat → St → St × Int
  | 0, g => (g, 0)
  | n + 1, g => if roR g = 0 then (roG g, roG g 14 0 0 8) else if roG g 14 0 0 8 = roG g 14 0 0 7 then (roG g, -1) else if nx (roG g) = 59 then fe n (tkG (roG g) 59) else (roG g, roG g 14 0 0 8)
theorem nx_up {g : St} {q v : Int} (h7 : q ≠ 7) (h8 : q ≠ 8) : nx (up g 14 0 0 q v) = nx g := by
  unfold nx; rw [up_i (Ne.symm h7), up_i (Ne.symm h8), up_f (by decide)]
theorem nx_lt (g : St) : nx (ltG g) = nx g := nx_up (by decide) (by decide)
theorem wb_lt {g : St} (h : wb g) : wb (ltG g) := wb_up h (by decide) (by decide)
theorem wb_al {g : St} (h : wb g) (h2 : nx g ≠ 0) : wb (atS (ltG g)) := wb_ad (wb_lt h) (by rw [nx_lt]; exact h2)
theorem rcR_01 (g : St) : rcR g = 0 ∨ rcR g = 1 := by unfold rcR; (repeat' split) <;> simp
theorem rwR_01 (g : St) : rwR g = 0 ∨ rwR g = 1 := by unfold rwR; (repeat' split) <;> simp
theorem rtR_01 (g : St) : rtR g = 0 ∨ rtR g = 1 := by unfold rtR; (repeat' split) <;> simp
theorem roR_01 (g : St) : roR g = 0 ∨ roR g = 1 := by
  unfold roR; (repeat' split)
  · exact rcR_01 _
  · exact rwR_01 _
  · exact rtR_01 _
  · exact Or.inl rfl
/-- the text goes on: only the scratch numbers change -/
def fw (g u : St) : Prop := wb u ∧ (g 14 0 0 8 ≤ u 14 0 0 8 ∧ (u 14 0 0 8 ≤ g 14 0 0 8 ∨ u 14 0 0 8 ≤ g 14 0 0 7)) ∧ ∀ f k j i, ¬ (f = 14 ∧ k = 0 ∧ j = 0 ∧ 8 ≤ i ∧ i ≤ 11) → u f k j i = g f k j i
theorem fw_re {g : St} (h : wb g) : fw g g := ⟨h, ⟨Int.le_refl _, Or.inl (Int.le_refl _)⟩, fun _ _ _ _ _ => rfl⟩
theorem fw_tr {g u w : St} (h : fw g u) (h2 : fw u w) : fw g w := ⟨h2.1, by have h7 := h.2.2 14 0 0 7 (by decide); have a := h.2.1; have b := h2.2.1; omega, fun f k j i hn => (h2.2.2 f k j i hn).trans (h.2.2 f k j i hn)⟩
theorem fw_ad {g : St} (h : wb g) (h2 : nx g ≠ 0) : fw g (atS g) := ⟨wb_ad h h2, by have h3 := nx_at h2; unfold atS; rw [up_s]; omega, fun f k j i hn => by simp only [atS, up]; rw [if_neg (by omega)]⟩
theorem fw_dg {g : St} {a b : Int} (h : wb g) (ha : 0 ≤ a) : fw g (dgG g a b) := by
  unfold dgG; split
  · exact fw_ad h (by omega)
  · exact fw_re h
theorem fw_tk {g : St} {c : Int} (h : wb g) (hc : 0 < c) : fw g (tkG g c) := by
  unfold tkG; split
  · exact fw_ad h (by omega)
  · exact fw_re h
theorem fw_up {g : St} {q v : Int} (h : wb g) (h9 : 9 ≤ q ∧ q ≤ 11) : fw g (up g 14 0 0 q v) := ⟨wb_up h (by omega) (by omega), by rw [up_i (by omega)]; omega, fun f k j i hn => by simp only [up]; rw [if_neg (by omega)]⟩
theorem fw_fs {g : St} {a b : Int} (h : wb g) (ha : 0 ≤ a) : fw g (fsB g a b) := fw_tr (fw_dg h ha) (fw_up (wb_dg h ha) (by decide))
theorem fw_sn {g : St} {a b s : Int} (h : wb g) (ha : 0 ≤ a) : fw g (snB g a b s) := fw_tr (fw_dg h ha) (fw_up (wb_dg h ha) (by decide))
theorem fw_ts {g : St} {c a b s : Int} (h : wb g) (hc : 0 < c) (ha : 0 ≤ a) : fw g (snB (tkG g c) a b s) := fw_tr (fw_tk h hc) (fw_sn (wb_tk h hc) ha)
theorem fw_rc {g : St} (h : wb g) : fw g (rcG g) := by
  have h1 : fw g (fsB g 0 3) := fw_fs h (Int.le_refl 0)
  unfold rcG; (repeat' split)
  · exact h1
  · exact fw_tr h1 (fw_ts h1.1 (by decide) (by decide))
  · exact h1
theorem fw_rw {g : St} (h : wb g) : fw g (rwG g) := by
  have h1 : fw g (fsB g 0 3) := fw_fs h (Int.le_refl 0)
  unfold rwG; (repeat' split)
  · exact h1
  · exact fw_tr h1 (fw_ts h1.1 (by decide) (by decide))
  · exact fw_tr h1 (fw_ts h1.1 (by decide) (by decide))
  · exact h1
theorem fw_rt {g : St} (h : wb g) : fw g (rtG g) := by
  have h1 : fw g (fsB g 1 9) := fw_fs h (by decide)
  have h2 : fw g (dgG (fsB g 1 9) 0 9) := fw_tr h1 (fw_dg h1.1 (by decide))
  unfold rtG; (repeat' split)
  · exact fw_tr h1 (fw_up h1.1 (by decide))
  · exact fw_tr h2 (fw_up h2.1 (by decide))
  · exact fw_tr h2 (fw_up h2.1 (by decide))
theorem fw_lt {g : St} (h : wb g) : fw g (ltG g) := fw_up h (by decide)
theorem fw_al {g : St} (h : wb g) (h2 : nx g ≠ 0) : fw g (atS (ltG g)) := fw_tr (fw_lt h) (fw_ad (wb_lt h) (by rw [nx_lt]; exact h2))
theorem fw_ro {g : St} (h : wb g) : fw g (roG g) := by
  unfold roG; (repeat' split)
  · exact fw_tr (fw_al h (by omega)) (fw_rc (wb_al h (by omega)))
  · exact fw_tr (fw_al h (by omega)) (fw_rw (wb_al h (by omega)))
  · exact fw_tr (fw_al h (by omega)) (fw_rt (wb_al h (by omega)))
  · exact fw_lt h
theorem tk_at {g : St} {c : Int} (h : nx g = c) : tkG g c 14 0 0 8 = g 14 0 0 8 + 1 := by
  unfold tkG; rw [if_pos h]; exact up_s
theorem wb_up8 {g : St} (h : wb g) : wb (up g 14 0 0 8 0) := by
  unfold wb at *
  rw [up_i (by decide), up_s, up_ff (by decide)]
  exact ⟨h.1, by decide, h.2.2⟩

theorem fe_in : ∀ (n : Nat) {g : St}, wb g → fw g (fe n g).1 ∧ -1 ≤ (fe n g).2 ∧ (fe n g).2 ≤ 100
  | 0, g, h => ⟨fw_re h, by simp [fe], by simp [fe]⟩
  | n + 1, g, h => by
    have hw := fw_ro h
    have hb := hw.1.2.1
    rw [fe]; (repeat' split)
    · exact ⟨hw, by omega, by omega⟩
    · exact ⟨hw, by simp, by simp⟩
    · have hr := fe_in n (g := tkG (roG g) 59) (wb_tk hw.1 (by decide))
      exact ⟨fw_tr (fw_tr hw (fw_tk hw.1 (by decide))) hr.1, hr.2⟩
    · exact ⟨hw, by omega, by omega⟩

/-! the reference: a call, an echo back, the echoes that are left -/
theorem ad_lo {g : St} {p w y x : Int} (hn : 0 ≤ g 15 0 0 9) (hx : x < 34) (h9 : x ≠ 9) : adM g p w y 15 0 0 x = g 15 0 0 x := by
  unfold adM; repeat rw [up_i (by omega)]
theorem ad_9 {g : St} {p w y : Int} : adM g p w y 15 0 0 9 = g 15 0 0 9 + 1 := by unfold adM; rw [up_s]
theorem ad_e {g : St} {p w y x : Int} (h0 : 34 ≤ x) (hx : x < 34 + 5 * g 15 0 0 9) : adM g p w y 15 0 0 x = g 15 0 0 x := by
  unfold adM; repeat rw [up_i (by omega)]
theorem ad_f {g : St} {p w y : Int} {f : Nat} (h : f ≠ 15) : adM g p w y f = g f := by
  unfold adM; repeat rw [up_ff h]
theorem ad_n {g : St} {p w y : Int} (hn : 0 ≤ g 15 0 0 9) : adM g p w y 15 0 0 (34 + 5 * g 15 0 0 9 + 0) = p ∧ adM g p w y 15 0 0 (34 + 5 * g 15 0 0 9 + 1) = g 15 0 0 (10 + 6 * p + 0) ∧ adM g p w y 15 0 0 (34 + 5 * g 15 0 0 9 + 2) = w ∧ adM g p w y 15 0 0 (34 + 5 * g 15 0 0 9 + 3) = g 15 0 0 3 + mDl g (g 15 0 0 (10 + 6 * p + 0)) y ∧ adM g p w y 15 0 0 (34 + 5 * g 15 0 0 9 + 4) = y := by
  unfold adM
  refine ⟨?_, ?_, ?_, ?_, ?_⟩ <;> (repeat rw [up_i (by omega)]) <;> rw [up_s]
theorem wm_ad {g : St} {p w y : Int} (h : wm (g 15 0 0) 1) (hp : 0 ≤ p ∧ p < 4) (hw : 0 ≤ w ∧ w ≤ 9) (hy : 0 ≤ y ∧ y ≤ 1) (hn : g 15 0 0 9 < 24) : wm (adM g p w y 15 0 0) 1 := by
  obtain ⟨mS0, mS1, mS2, mB0, mB1, mB2, mCl, mN, mPl, mEc⟩ := id h
  have lo : ∀ x : Int, x < 34 → x ≠ 9 → adM g p w y 15 0 0 x = g 15 0 0 x := fun x hx h9 => ad_lo mN.1 hx h9
  have hpl := mPl p hp.1 hp.2
  have hd := mDl_in (w := y) h hpl
  unfold wm okM
  rw [lo 0 (by decide) (by decide), lo 1 (by decide) (by decide), lo 2 (by decide) (by decide), lo 3 (by decide) (by decide), lo 4 (by decide) (by decide), lo 5 (by decide) (by decide), lo 6 (by decide) (by decide), ad_9]
  refine ⟨mS0, mS1, mS2, mB0, mB1, mB2, mCl, by omega, fun q h0 h4 => by rw [lo (10 + 6 * q + 0) (by omega) (by omega)]; exact mPl q h0 h4, fun e h0 hl => ?_⟩
  by_cases he : e = g 15 0 0 9
  · subst he
    obtain ⟨e0, e1, e2, e3, e4⟩ := ad_n (p := p) (w := w) (y := y) mN.1
    rw [e0, e1, e2, e3, e4]
    omega
  · have := mEc e h0 (by omega)
    unfold okM at this
    rw [ad_e (by omega) (by omega), ad_e (by omega) (by omega), ad_e (by omega) (by omega), ad_e (by omega) (by omega), ad_e (by omega) (by omega)]
    exact this
def dcA (g : St) (p w : Int) : St := adM (adM g p w 0) p w 1
def dcG (g : St) (p w : Int) : St := up (up (dcA g p w) 15 0 0 8 (g 15 0 0 8 + 2)) 15 0 0 (10 + 6 * p + 2) (g 15 0 0 (10 + 6 * p + 2) + 1)
def dcM (g : St) (p w : Int) : St := if 6 < mUw g p + 2 then up g 15 0 0 7 (g 15 0 0 7 + 1) else dcG g p w
def dcR (g : St) (p : Int) : Int := if 6 < mUw g p + 2 then -1 else if mD1 g p 0 < mD1 g p 1 then mD1 g p 0 else mD1 g p 1
theorem dcA_lo {g : St} {p w x : Int} (hn : 0 ≤ g 15 0 0 9) (hx : x < 34) (h9 : x ≠ 9) : dcA g p w 15 0 0 x = g 15 0 0 x := by
  unfold dcA; rw [ad_lo (by rw [ad_9]; omega) hx h9, ad_lo hn hx h9]
theorem dcG_lo {g : St} {p w x : Int} (hp : 0 ≤ p ∧ p < 4) (hn : 0 ≤ g 15 0 0 9) (hx : x < 34) (h9 : x ≠ 9) (h8 : x ≠ 8) (h2 : x ≠ 10 + 6 * p + 2) : dcG g p w 15 0 0 x = g 15 0 0 x := by
  unfold dcG; rw [up_i h2, up_i h8, dcA_lo hn hx h9]
/-- an echo back -/
abbrev pl1 (g : St) (e : Int) : Int := g 15 0 0 (34 + 5 * e + 0)
def cbK (g : St) (e a : Int) : Int := if a = 0 then 4 else if g 15 0 0 (10 + 6 * g 15 0 0 (34 + 5 * e + 0) + 0) = g 15 0 0 (34 + 5 * e + 1) then 3 else 5
def cb1 (g : St) (e a : Int) : St := up g 15 0 0 (10 + 6 * g 15 0 0 (34 + 5 * e + 0) + cbK g e a) (g 15 0 0 (10 + 6 * g 15 0 0 (34 + 5 * e + 0) + cbK g e a) + 1)
def cb2 (g : St) (e a : Int) : St := up (cb1 g e a) 15 0 0 (10 + 6 * g 15 0 0 (34 + 5 * e + 0) + 1) (g 15 0 0 (10 + 6 * g 15 0 0 (34 + 5 * e + 0) + 1) + 1)
def cbG (g : St) (e a : Int) : St := if cbK g e a = 3 ∧ g 15 0 0 4 = g 15 0 0 (34 + 5 * e + 1) then up (up (cb2 g e a) 15 0 0 5 (fwS (g 15 0 0 5) (g 15 0 0 (34 + 5 * e + 2)))) 15 0 0 6 (fwR (g 15 0 0 6) (g 15 0 0 (34 + 5 * e + 2))) else cb1 g e a
def cbR (g : St) (e a : Int) : Int := if cbK g e a = 3 ∧ g 15 0 0 4 = g 15 0 0 (34 + 5 * e + 1) then 1 else 0
theorem cbK_in (g : St) (e a : Int) : 3 ≤ cbK g e a ∧ cbK g e a ≤ 5 := by unfold cbK; (repeat' split) <;> omega
theorem cb1_i {g : St} {e a x : Int} (h : x ≠ 10 + 6 * g 15 0 0 (34 + 5 * e + 0) + cbK g e a) : cb1 g e a 15 0 0 x = g 15 0 0 x := by unfold cb1; rw [up_i h]
theorem cb2_i {g : St} {e a x : Int} (h : x ≠ 10 + 6 * g 15 0 0 (34 + 5 * e + 0) + cbK g e a) (h1 : x ≠ 10 + 6 * g 15 0 0 (34 + 5 * e + 0) + 1) : cb2 g e a 15 0 0 x = g 15 0 0 x := by unfold cb2; rw [up_i h1, cb1_i h]

/-- the echoes that are left -/
def cp5 (g : St) (a b n : Int) : St := fun f k j x => if f = 15 ∧ k = 0 ∧ j = 0 ∧ (34 + 5 * a ≤ x ∧ x < 34 + 5 * a + n) then g 15 0 0 (x - 5 * a + 5 * b) else g f k j x
theorem cp5_0 (g : St) (a b : Int) : cp5 g a b 0 = g := by funext f k j x; simp only [cp5]; rw [if_neg (by omega)]
theorem cp5_s (g : St) (a b i : Int) (h : 0 ≤ i) : up (cp5 g a b i) 15 0 0 (34 + 5 * a + i) (g 15 0 0 (34 + 5 * b + i)) = cp5 g a b (i + 1) := by
  funext f k j x; simp only [cp5, up]
  by_cases hx : x = 34 + 5 * a + i
  · subst hx; rw [show 34 + 5 * a + i - 5 * a + 5 * b = 34 + 5 * b + i by omega]; grind
  · grind
theorem cp5_o {g : St} {a b i x : Int} (h : x < 34 + 5 * a ∨ 34 + 5 * a + i ≤ x) : cp5 g a b i 15 0 0 x = g 15 0 0 x := by
  simp only [cp5]; rw [if_neg (by omega)]
theorem cp5_n {g : St} {a b i x : Int} (h : 0 ≤ x ∧ x < i) : cp5 g a b i 15 0 0 (34 + 5 * a + x) = g 15 0 0 (34 + 5 * b + x) := by
  unfold cp5; rw [if_pos ⟨rfl, rfl, rfl, by omega, by omega⟩, show 34 + 5 * a + x - 5 * a + 5 * b = 34 + 5 * b + x by omega]
theorem okM_of {s t : Int → Int} {d e e2 : Int} (h : okM s d e) (h0 : t 0 = s 0) (h3 : t 3 = s 3) (hx : ∀ x, 0 ≤ x → x < 5 → t (34 + 5 * e2 + x) = s (34 + 5 * e + x)) : okM t d e2 := by
  unfold okM at *
  rw [h0, h3, hx 0 (by decide) (by decide), hx 1 (by decide) (by decide), hx 2 (by decide) (by decide), hx 3 (by decide) (by decide), hx 4 (by decide) (by decide)]
  exact h
def kpM (g : St) (c : Int) : Nat → Int
  | 0 => 0
  | n + 1 => if c < g 15 0 0 (34 + 5 * (n : Int) + 3) then kpM g c n + 1 else kpM g c n
def dpM (g : St) (c : Int) : Nat → St
  | 0 => g
  | n + 1 => if c < g 15 0 0 (34 + 5 * (n : Int) + 3) then cp5 (dpM g c n) (kpM g c n) n 5 else dpM g c n
theorem kpM_in (g : St) (c : Int) : ∀ n : Nat, 0 ≤ kpM g c n ∧ kpM g c n ≤ n
  | 0 => by simp [kpM]
  | n + 1 => by have ih := kpM_in g c n; rw [kpM]; split <;> omega
theorem dpM_lo (g : St) (c : Int) {x : Int} (h : x < 34) : ∀ n : Nat, dpM g c n 15 0 0 x = g 15 0 0 x
  | 0 => rfl
  | n + 1 => by
    have hk := kpM_in g c n
    rw [dpM]; split
    · rw [cp5_o (by omega)]; exact dpM_lo g c h n
    · exact dpM_lo g c h n
theorem dpM_hi (g : St) (c : Int) {x : Int} : ∀ n : Nat, 34 + 5 * kpM g c n ≤ x → dpM g c n 15 0 0 x = g 15 0 0 x
  | 0, _ => rfl
  | n + 1, h => by
    rw [kpM] at h
    rw [dpM]; split
    · rename_i hc; rw [if_pos hc] at h; rw [cp5_o (by omega)]; exact dpM_hi g c n (by omega)
    · rename_i hc; rw [if_neg hc] at h; exact dpM_hi g c n h
theorem dpM_f (g : St) (c : Int) {f : Nat} (h : f ≠ 15) : ∀ n : Nat, dpM g c n f = g f
  | 0 => rfl
  | n + 1 => by
    rw [dpM, ← dpM_f g c h n]; split
    · funext k j x; simp only [cp5]; rw [if_neg (by simp [h])]
    · rfl
def ddG (g : St) : St := up (dpM g (g 15 0 0 3) (g 15 0 0 9).toNat) 15 0 0 9 (kpM g (g 15 0 0 3) (g 15 0 0 9).toNat)
theorem cp5_se (g : St) (n : Int) : cp5 g n n 5 = g := by
  funext f k j x; simp only [cp5]; split
  · rename_i h; obtain ⟨rfl, rfl, rfl, -⟩ := h; congr 1; omega
  · rfl
theorem wm_dp (g : St) (c : Int) (hc : c = g 15 0 0 3) (h : wm (g 15 0 0) 0) : ∀ n : Nat, (n : Int) ≤ g 15 0 0 9 → ∀ e, 0 ≤ e → e < kpM g c n → okM (dpM g c n 15 0 0) 1 e
  | 0, _, e, h0, h1 => by simp only [kpM] at h1; omega
  | n + 1, hn, e, h0, h1 => by
    have ih := wm_dp g c hc h n (by omega) e h0
    have hk := kpM_in g c n
    rw [kpM] at h1
    rw [dpM]; split
    · rename_i hd
      rw [if_pos hd] at h1
      by_cases he : e = kpM g c n
      · have ho := h.2.2.2.2.2.2.2.2.2 n (by omega) (by omega)
        subst he
        have ho1 : okM (g 15 0 0) 1 n := by
          unfold okM at *; omega
        refine okM_of ho1 (by rw [cp5_o (by omega), dpM_lo _ _ (by decide)]) (by rw [cp5_o (by omega), dpM_lo _ _ (by decide)]) (fun x h0 h5 => by rw [cp5_n ⟨h0, h5⟩, dpM_hi _ _ _ (by omega)])
      · refine okM_of (ih (by omega)) (by rw [cp5_o (by omega)]) (by rw [cp5_o (by omega)]) (fun x h0 h5 => by rw [cp5_o (by omega)])
    · rename_i hd
      rw [if_neg hd] at h1
      exact ih h1
theorem wm_dd {g : St} (h : wm (g 15 0 0) 0) : wm (ddG g 15 0 0) 1 := by
  have hw := wm_dp g (g 15 0 0 3) rfl h (g 15 0 0 9).toNat (by have := h.2.2.2.2.2.2.2.1; omega)
  have hk := kpM_in g (g 15 0 0 3) (g 15 0 0 9).toNat
  obtain ⟨mS0, mS1, mS2, mB0, mB1, mB2, mCl, mN, mPl, mEc⟩ := id h
  have lo : ∀ x : Int, x < 34 → x ≠ 9 → ddG g 15 0 0 x = g 15 0 0 x := fun x hx h9 => by unfold ddG; rw [up_i h9, dpM_lo _ _ hx]
  have l9 : ddG g 15 0 0 9 = kpM g (g 15 0 0 3) (g 15 0 0 9).toNat := by unfold ddG; rw [up_s]
  unfold wm
  rw [lo 0 (by decide) (by decide), lo 1 (by decide) (by decide), lo 2 (by decide) (by decide), lo 3 (by decide) (by decide), lo 4 (by decide) (by decide), lo 5 (by decide) (by decide), lo 6 (by decide) (by decide), l9]
  refine ⟨mS0, mS1, mS2, mB0, mB1, mB2, mCl, by omega, fun q h0 h4 => by rw [lo _ (by omega) (by omega)]; exact mPl q h0 h4, fun e h0 hl => ?_⟩
  refine okM_of (hw e h0 hl) (by rw [lo 0 (by decide) (by decide), dpM_lo _ _ (by decide)]) (by rw [lo 3 (by decide) (by decide), dpM_lo _ _ (by decide)]) (fun x h0 h5 => by unfold ddG; rw [up_i (by omega)])

theorem cpX {g : St} {a b x : Int} (hx : 0 ≤ x) (h : a ≤ b) (h5 : x < 5) : cp5 g a b x 15 0 0 (34 + 5 * b + x) = g 15 0 0 (34 + 5 * b + x) := cp5_o (by omega)

/-! the reference: a turn -/
/-- what an echo back leaves -/
def fz (g u : St) : Prop := wm (u 15 0 0) 0 ∧ (∀ x, (x ≤ 4 ∨ x = 9 ∨ 34 ≤ x) → u 15 0 0 x = g 15 0 0 x) ∧ ∀ f : Nat, f ≠ 15 → u f = g f
theorem fz_re {g : St} (h : wm (g 15 0 0) 0) : fz g g := ⟨h, fun _ _ => rfl, fun _ _ => rfl⟩
theorem fz_tr {g u w : St} (h : fz g u) (h2 : fz u w) : fz g w := ⟨h2.1, fun x hx => (h2.2.1 x hx).trans (h.2.1 x hx), fun f hf => (h2.2.2 f hf).trans (h.2.2 f hf)⟩
theorem wm_eq {s t : Int → Int} {d : Int} (h : wm s d) (h5 : 1 ≤ t 5 ∧ t 5 ≤ 9) (h6 : t 6 = 0 ∨ t 6 = 1) (hp : ∀ p, 0 ≤ p → p < 4 → t (10 + 6 * p + 0) = s (10 + 6 * p + 0)) (hx : ∀ x, (x ≤ 4 ∨ x = 9 ∨ 34 ≤ x) → t x = s x) : wm t d := by
  obtain ⟨mS0, mS1, mS2, mB0, mB1, mB2, mCl, mN, mPl, mEc⟩ := h
  unfold wm
  rw [hx 0 (by decide), hx 1 (by decide), hx 2 (by decide), hx 3 (by decide), hx 4 (by decide), hx 9 (by decide)]
  refine ⟨mS0, mS1, mS2, mB0, h5, h6, mCl, mN, fun p h0 h4 => by rw [hp p h0 h4]; exact mPl p h0 h4, fun e h0 h1 => ?_⟩
  exact okM_of (mEc e h0 h1) (hx 0 (by decide)) (hx 3 (by decide)) (fun x h0 h5 => hx _ (by omega))
theorem fz_cb {g : St} {e a : Int} (h : wm (g 15 0 0) 0) (he : 0 ≤ e ∧ e < g 15 0 0 9) : fz g (cbG g e a) := by
  obtain ⟨mS0, mS1, mS2, mB0, mB1, mB2, mCl, mN, mPl, mEc⟩ := id h
  have hk := cbK_in g e a
  have hee := mEc e he.1 he.2
  unfold okM at hee
  have c1 : ∀ x : Int, x ≠ 10 + 6 * g 15 0 0 (34 + 5 * e + 0) + cbK g e a → cb1 g e a 15 0 0 x = g 15 0 0 x := fun x hx => cb1_i hx
  have c2 : ∀ x : Int, x ≠ 10 + 6 * g 15 0 0 (34 + 5 * e + 0) + cbK g e a → x ≠ 10 + 6 * g 15 0 0 (34 + 5 * e + 0) + 1 → cb2 g e a 15 0 0 x = g 15 0 0 x := fun x hx h1 => cb2_i hx h1
  unfold cbG; split
  · refine ⟨wm_eq h (by rw [up_i (by decide), up_s]; exact fwS_in mB1) (by rw [up_s]; exact fwR_in mB2) (fun p h0 h4 => by rw [up_i (by omega), up_i (by omega), c2 _ (by omega) (by omega)]) (fun x hx => by rw [up_i (by omega), up_i (by omega), c2 _ (by omega) (by omega)]), fun x hx => by rw [up_i (by omega), up_i (by omega), c2 _ (by omega) (by omega)], fun f hf => by rw [up_ff hf, up_ff hf]; unfold cb2 cb1; rw [up_ff hf, up_ff hf]⟩
  · refine ⟨wm_eq h (by rw [c1 _ (by omega)]; exact mB1) (by rw [c1 _ (by omega)]; exact mB2) (fun p h0 h4 => by rw [c1 _ (by omega)]) (fun x hx => by rw [c1 _ (by omega)]), fun x hx => by rw [c1 _ (by omega)], fun f hf => by unfold cb1; rw [up_ff hf]⟩
def tpE (u : St) (p a : Int) : Nat → St × Int
  | 0 => (u, 0)
  | n + 1 => if u 15 0 0 (34 + 5 * (n : Int) + 1) = p ∧ u 15 0 0 (34 + 5 * (n : Int) + 3) = u 15 0 0 3 then (cbG (tpE u p a n).1 n a, (tpE u p a n).2 + cbR (tpE u p a n).1 n a) else tpE u p a n
def sg (u : St) (p : Int) : Int := if mCo u p (u 15 0 0 3) = 1 then 1 else 0
def tpP (h : St) : Nat → St × Int
  | 0 => (h, 0)
  | n + 1 => ((tpE (tpP h n).1 n (sg (tpP h n).1 n) (h 15 0 0 9).toNat).1, (tpP h n).2 + (tpE (tpP h n).1 n (sg (tpP h n).1 n) (h 15 0 0 9).toNat).2)
theorem cbR_01 (g : St) (e a : Int) : 0 ≤ cbR g e a ∧ cbR g e a ≤ 1 := by unfold cbR; split <;> decide
theorem tpE_in {u : St} {p a : Int} (h : wm (u 15 0 0) 0) : ∀ n : Nat, (n : Int) ≤ u 15 0 0 9 → fz u (tpE u p a n).1 ∧ 0 ≤ (tpE u p a n).2 ∧ (tpE u p a n).2 ≤ n
  | 0, _ => ⟨fz_re h, by simp [tpE], by simp [tpE]⟩
  | n + 1, hn => by
    have ih := tpE_in (p := p) (a := a) h n (by omega)
    have h9 := ih.1.2.1 9 (by omega)
    have hr := cbR_01 (tpE u p a n).1 n a
    rw [tpE]; split
    · exact ⟨fz_tr ih.1 (fz_cb ih.1.1 (by omega)), by show 0 ≤ (tpE u p a n).2 + _; omega, by show (tpE u p a n).2 + _ ≤ _; omega⟩
    · exact ⟨ih.1, by omega, by omega⟩
theorem tpP_in {h : St} (hw : wm (h 15 0 0) 0) : ∀ n : Nat, fz h (tpP h n).1 ∧ 0 ≤ (tpP h n).2 ∧ (tpP h n).2 ≤ 24 * n
  | 0 => ⟨fz_re hw, by simp [tpP], by simp [tpP]⟩
  | n + 1 => by
    have ih := tpP_in hw n
    have h9 := ih.1.2.1 9 (by omega)
    have hN := hw.2.2.2.2.2.2.2.1
    have he := tpE_in (p := n) (a := sg (tpP h n).1 n) ih.1.1 (h 15 0 0 9).toNat (by omega)
    rw [tpP]
    exact ⟨fz_tr ih.1 he.1, by show 0 ≤ (tpP h n).2 + _; omega, by show (tpP h n).2 + _ ≤ _; omega⟩
/-- the ball's way of a turn -/
def mtA (g : St) : St := up (up (up g 15 0 0 3 (g 15 0 0 3 + 1)) 14 0 0 12 (g 15 0 0 4)) 14 0 0 13 (g 15 0 0 6)
def mtB (g : St) : St := mbG (mtA g) (g 15 0 0 5).toNat
def mtC (g : St) : St := up (up (mtB g) 15 0 0 4 (mtB g 14 0 0 12)) 15 0 0 6 (mtB g 14 0 0 13)
theorem mtB_15 (g : St) : mtB g 15 = up g 15 0 0 3 (g 15 0 0 3 + 1) 15 := by unfold mtB mtA; rw [mbG_f _ _ (by decide), up_ff (by decide), up_ff (by decide)]
theorem mtB_b {g : St} {d : Int} (h : wm (g 15 0 0) d) : (0 ≤ mtB g 14 0 0 12 ∧ mtB g 14 0 0 12 ≤ g 15 0 0 0) ∧ (mtB g 14 0 0 13 = 0 ∨ mtB g 14 0 0 13 = 1) := by
  obtain ⟨mS0, mS1, mS2, mB0, mB1, mB2, -⟩ := h
  have hb := bwalk_in (last := g 15 0 0 0) (by omega) (q := (g 15 0 0 4, g 15 0 0 6)) mB0 mB2 (g 15 0 0 5).toNat
  have e1 : mtB g 14 0 0 12 = (bwalk (g 15 0 0 0) (g 15 0 0 5).toNat (g 15 0 0 4, g 15 0 0 6)).1 := by simp [mtB, mtA, mbG, up]
  have e2 : mtB g 14 0 0 13 = (bwalk (g 15 0 0 0) (g 15 0 0 5).toNat (g 15 0 0 4, g 15 0 0 6)).2 := by simp [mtB, mtA, mbG, up]
  rw [e1, e2]; exact hb
theorem mtC_x (g : St) {x : Int} (h3 : x ≠ 3) (h4 : x ≠ 4) (h6 : x ≠ 6) : mtC g 15 0 0 x = g 15 0 0 x := by
  unfold mtC; rw [up_i h6, up_i h4, mtB_15, up_i h3]
theorem mtC_3 (g : St) : mtC g 15 0 0 3 = g 15 0 0 3 + 1 := by
  unfold mtC; rw [up_i (by decide), up_i (by decide), mtB_15, up_s]
theorem wm_mt {g : St} (h : wm (g 15 0 0) 1) (hc : g 15 0 0 3 + 1 ≤ 100000) : wm (mtC g 15 0 0) 0 := by
  have hb := mtB_b h
  obtain ⟨mS0, mS1, mS2, mB0, mB1, mB2, mCl, mN, mPl, mEc⟩ := h
  have h4 : mtC g 15 0 0 4 = mtB g 14 0 0 12 := by unfold mtC; rw [up_i (by decide), up_s]
  have h6 : mtC g 15 0 0 6 = mtB g 14 0 0 13 := by unfold mtC; rw [up_s]
  unfold wm okM
  rw [mtC_x g (x := 0) (by decide) (by decide) (by decide), mtC_x g (x := 1) (by decide) (by decide) (by decide), mtC_x g (x := 2) (by decide) (by decide) (by decide), mtC_x g (x := 5) (by decide) (by decide) (by decide), mtC_x g (x := 9) (by decide) (by decide) (by decide), mtC_3, h4, h6]
  refine ⟨mS0, mS1, mS2, hb.1, mB1, hb.2, by omega, mN, fun p h0 h5 => by rw [mtC_x g (by omega) (by omega) (by omega)]; exact mPl p h0 h5, fun e h0 h1 => ?_⟩
  have := mEc e h0 h1
  unfold okM at this
  rw [mtC_x g (by omega) (by omega) (by omega), mtC_x g (by omega) (by omega) (by omega), mtC_x g (by omega) (by omega) (by omega), mtC_x g (by omega) (by omega) (by omega), mtC_x g (by omega) (by omega) (by omega)]
  omega
def tuM (g : St) : St × Int := (ddG (tpP (mtC g) (g 15 0 0 0 + 1).toNat).1, (tpP (mtC g) (g 15 0 0 0 + 1).toNat).2)

/-! the reference: its changes -/
theorem t0_3 (g : St) : t0 g 14 0 0 3 = g 14 0 0 3 := up_i (by decide)
theorem tuM_in {g : St} (h : wm (g 15 0 0) 1) (hc : g 15 0 0 3 + 1 ≤ 100000) : wm ((tuM g).1 15 0 0) 1 ∧ (tuM g).1 15 0 0 3 = g 15 0 0 3 + 1 ∧ 0 ≤ (tuM g).2 ∧ (tuM g).2 ≤ 984 ∧ (tuM g).1 15 0 0 0 = g 15 0 0 0 := by
  have hmc := wm_mt h hc
  have hp := tpP_in hmc (g 15 0 0 0 + 1).toNat
  have hs := h.1
  refine ⟨wm_dd hp.1.1, ?_, hp.2.1, ?_, ?_⟩
  · show ddG _ 15 0 0 3 = _
    unfold ddG; rw [up_i (by decide), dpM_lo _ _ (by decide), hp.1.2.1 3 (by decide), mtC_3]
  · have := hp.2.2
    show (tpP (mtC g) (g 15 0 0 0 + 1).toNat).2 ≤ 984
    omega
  · show ddG _ 15 0 0 0 = _
    unfold ddG; rw [up_i (by decide), dpM_lo _ _ (by decide), hp.1.2.1 0 (by decide), mtC_x g (by decide) (by decide) (by decide)]
def tuN (g : St) : Nat → St × Int
  | 0 => (g, 0)
  | n + 1 => ((tuM (tuN g n).1).1, (tuN g n).2 + (tuM (tuN g n).1).2)
theorem tuN_in {g : St} (h : wm (g 15 0 0) 1) : ∀ n : Nat, g 15 0 0 3 + n ≤ 100000 → wm ((tuN g n).1 15 0 0) 1 ∧ (tuN g n).1 15 0 0 3 = g 15 0 0 3 + n ∧ 0 ≤ (tuN g n).2 ∧ (tuN g n).2 ≤ 984 * n
  | 0, _ => ⟨h, by simp [tuN], by simp [tuN], by simp [tuN]⟩
  | n + 1, hn => by
    have ih := tuN_in h n (by omega)
    have ht := tuM_in ih.1 (by omega)
    rw [tuN]
    exact ⟨ht.1, by show (tuM (tuN g n).1).1 15 0 0 3 = _; omega, by show 0 ≤ (tuN g n).2 + _; omega, by show (tuN g n).2 + _ ≤ _; omega⟩
def furM (g : St) : Int := mxN (fun e => g 15 0 0 (34 + 5 * e + 1)) (g 15 0 0 9).toNat (mxN (fun p => g 15 0 0 (10 + 6 * p + 0)) 4 (g 15 0 0 4))
theorem mxN_at {f : Int → Int} {i b v : Int} (h : 0 ≤ i) : mxN f (i + 1).toNat b ≤ v ↔ mxN f i.toNat b ≤ v ∧ f i ≤ v := by
  rw [mxN_s h]; omega
def doR (g : St) : Int := if g 14 0 0 9 = 99 then (if dcR g (g 14 0 0 10) = -1 then 0 else 1) else if g 14 0 0 9 = 109 then (if mvRM g (g 14 0 0 10) (g 14 0 0 11) = -1 then 0 else 1) else if g 15 0 0 3 + g 14 0 0 10 ≤ 99999 then 1 else 0
def doM (g : St) : St := if g 14 0 0 9 = 99 then dcM g (g 14 0 0 10) (g 14 0 0 11) else if g 14 0 0 9 = 109 then mvGM g (g 14 0 0 10) (g 14 0 0 11) else if g 15 0 0 3 + g 14 0 0 10 ≤ 99999 then (tuN g (g 14 0 0 10).toNat).1 else g
theorem svA_f (g : St) {f : Nat} (h : f ≠ 14) (h2 : f ≠ 16) : svA g f = g f := by
  unfold svA; split
  · rw [up_ff h]; funext k j x; simp only [shM]; rw [if_neg (by simp [h2])]
  · rfl
theorem svM_f (g : St) {f : Nat} (h : f ≠ 14) (h2 : f ≠ 16) : svM g f = g f := by
  unfold svM; rw [up_ff h]
  have : cpM (svA g) (svA g 14 0 0 3) 154 f = svA g f := by funext k j x; simp only [cpM]; rw [if_neg (by simp [h2])]
  rw [this, svA_f g h h2]
theorem sv_15 (g : St) : svM (t0 g) 15 = g 15 := by rw [svM_f _ (by decide) (by decide), t0_f (by decide)]
theorem mUw_15 {g u : St} (h : u 15 = g 15) (p : Int) : mUw u p = mUw g p := by unfold mUw mOf; rw [h]
def ksM (g : St) (a n : Int) : St := fun f k j x => if f = 17 ∧ k = 0 ∧ j = 0 ∧ (154 * a ≤ x ∧ x < 154 * a + n) then g 15 0 0 (x - 154 * a) else g f k j x
def gbM (g : St) (q : Nat) (m n : Int) : St := fun f k j x => if f = 15 ∧ k = 0 ∧ j = 0 ∧ (0 ≤ x ∧ x < n) then g q 0 0 (m + x) else g f k j x
theorem ksM_0 (g : St) (a : Int) : ksM g a 0 = g := by funext f k j x; simp only [ksM]; rw [if_neg (by omega)]
theorem ksM_s (g : St) (a i : Int) (h : 0 ≤ i) : up (ksM g a i) 17 0 0 (154 * a + i) (g 15 0 0 i) = ksM g a (i + 1) := by
  funext f k j x; simp only [ksM, up]
  by_cases hx : x = 154 * a + i
  · subst hx; rw [show 154 * a + i - 154 * a = i by omega]; grind
  · grind
theorem gbM_0 (g : St) (q : Nat) (m : Int) : gbM g q m 0 = g := by funext f k j x; simp only [gbM]; rw [if_neg (by omega)]
theorem gbM_s (g : St) (q : Nat) (m i : Int) (h : 0 ≤ i) : up (gbM g q m i) 15 0 0 i (g q 0 0 (m + i)) = gbM g q m (i + 1) := by
  funext f k j x; simp only [gbM, up]; grind
theorem gbM_f (g : St) (q : Nat) (m i : Int) {f : Nat} (h : f ≠ 15) : gbM g q m i f = g f := by
  funext k j x; simp only [gbM]; rw [if_neg (by simp [h])]

theorem dcR_in {g : St} {p : Int} (h : wm (g 15 0 0) 1) (hp : 0 ≤ p ∧ p < 4) : -1 ≤ dcR g p ∧ dcR g p ≤ 100 := by
  have hpl := h.2.2.2.2.2.2.2.2.1 p hp.1 hp.2
  have h0 : 1 ≤ mD1 g p 0 ∧ mD1 g p 0 ≤ 100 := mDl_in h hpl
  have h1 : 1 ≤ mD1 g p 1 ∧ mD1 g p 1 ≤ 100 := mDl_in h hpl
  unfold dcR; (repeat' split) <;> omega

/-! the reference: a run of orders -/
def n6M (g : St) : Prop := ∀ p, 0 ≤ p → p < 4 → mUw g p ≤ 6
theorem mUw_x {g u : St} (h : ∀ x, (x = 9 ∨ 34 ≤ x) → u 15 0 0 x = g 15 0 0 x) (p : Int) : mUw u p = mUw g p := by
  show cn (mOf u p) (u 15 0 0 9).toNat = cn (mOf g p) (g 15 0 0 9).toNat
  rw [h 9 (by decide)]
  exact cn_congr (fun i h0 _ => by simp only [mOf]; rw [h (34 + 5 * i + 0) (by omega)])
theorem mUw_ad {g : St} {p w y q : Int} (hn : 0 ≤ g 15 0 0 9) : mUw (adM g p w y) q = mUw g q + (if p = q then 1 else 0) := by
  show cn (mOf (adM g p w y) q) (adM g p w y 15 0 0 9).toNat = cn (mOf g q) (g 15 0 0 9).toNat + _
  rw [ad_9, cn_s hn]
  have h1 : cn (mOf (adM g p w y) q) (g 15 0 0 9).toNat = cn (mOf g q) (g 15 0 0 9).toNat := cn_congr (fun i h0 h1 => by simp only [mOf]; rw [ad_e (by omega) (by omega)])
  have h2 : mOf (adM g p w y) q (g 15 0 0 9) = decide (p = q) := by simp only [mOf]; rw [(ad_n hn).1]
  rw [h1, h2]; simp only [decide_eq_true_eq]
theorem cn_sum (g : St) : ∀ n : Nat, (∀ e : Int, 0 ≤ e → e < n → 0 ≤ g 15 0 0 (34 + 5 * e + 0) ∧ g 15 0 0 (34 + 5 * e + 0) < 4) → cn (mOf g 0) n + cn (mOf g 1) n + cn (mOf g 2) n + cn (mOf g 3) n = n
  | 0, _ => by simp [cn]
  | n + 1, h => by
    have ih := cn_sum g n (fun e h0 h1 => h e h0 (by omega))
    have hl := h n (by omega) (by omega)
    simp only [cn]
    simp only [mOf, decide_eq_true_eq]
    (repeat' split) <;> omega
theorem n6_room {g : St} {d : Int} (h : wm (g 15 0 0) d) (h6 : n6M g) : ∀ p, 0 ≤ p → p < 4 → mUw g p + 2 ≤ 6 → g 15 0 0 9 + 2 ≤ 24 := by
  intro p h0 h4 hp
  have hN := h.2.2.2.2.2.2.2.1
  have hs := cn_sum g (g 15 0 0 9).toNat (fun e e0 e1 => (h.2.2.2.2.2.2.2.2.2 e e0 (by omega)).1)
  have a0 : cn (mOf g 0) (g 15 0 0 9).toNat ≤ 6 := h6 0 (by decide) (by decide)
  have a1 : cn (mOf g 1) (g 15 0 0 9).toNat ≤ 6 := h6 1 (by decide) (by decide)
  have a2 : cn (mOf g 2) (g 15 0 0 9).toNat ≤ 6 := h6 2 (by decide) (by decide)
  have a3 : cn (mOf g 3) (g 15 0 0 9).toNat ≤ 6 := h6 3 (by decide) (by decide)
  have hp2 : cn (mOf g p) (g 15 0 0 9).toNat + 2 ≤ 6 := hp
  have hq : p = 0 ∨ p = 1 ∨ p = 2 ∨ p = 3 := by omega
  rcases hq with rfl | rfl | rfl | rfl <;> omega
theorem n6_dc {g : St} {p w : Int} (h : wm (g 15 0 0) 1) (h6 : n6M g) (hp : 0 ≤ p ∧ p < 4) : n6M (dcM g p w) := by
  have hN := h.2.2.2.2.2.2.2.1
  unfold dcM; split
  · intro q h0 h4; rw [mUw_x (fun x hx => up_i (by omega)) q]; exact h6 q h0 h4
  · intro q h0 h4
    have e1 : mUw (dcG g p w) q = mUw (dcA g p w) q := mUw_x (fun x hx => by unfold dcG; rw [up_i (by omega), up_i (by omega)]) q
    rw [e1]; unfold dcA
    rw [mUw_ad (by rw [ad_9]; omega), mUw_ad hN.1]
    have := h6 q h0 h4
    by_cases hq : p = q
    · subst hq; rw [if_pos rfl]; omega
    · rw [if_neg hq]; omega
theorem wm_dc {g : St} {p w : Int} (h : wm (g 15 0 0) 1) (h6 : n6M g) (hp : 0 ≤ p ∧ p < 4) (hw : 0 ≤ w ∧ w ≤ 9) : wm (dcM g p w 15 0 0) 1 := by
  have hN := h.2.2.2.2.2.2.2.1
  unfold dcM; split
  · exact wm_eq h (by rw [up_i (by decide)]; exact h.2.2.2.2.1) (by rw [up_i (by decide)]; exact h.2.2.2.2.2.1) (fun q h0 h4 => up_i (by omega)) (fun x hx => up_i (by omega))
  · have hr := n6_room h h6 p hp.1 hp.2 (by omega)
    have h1 := wm_ad (y := 0) h hp hw (by decide) (by omega)
    have h2 : wm (dcA g p w 15 0 0) 1 := wm_ad h1 hp hw (by decide) (by rw [ad_9]; omega)
    unfold dcG
    exact wm_eq h2 (by rw [up_i (by omega), up_i (by omega)]; exact h2.2.2.2.2.1) (by rw [up_i (by omega), up_i (by omega)]; exact h2.2.2.2.2.2.1) (fun q h0 h4 => by rw [up_i (by omega), up_i (by omega)]) (fun x hx => by rw [up_i (by omega), up_i (by omega)])
theorem wm_mv {g : St} {p b : Int} (h : wm (g 15 0 0) 1) (hp : 0 ≤ p ∧ p < 4) : wm (mvGM g p b 15 0 0) 1 := by
  unfold mvGM; split
  · exact wm_eq h (by rw [up_i (by decide)]; exact h.2.2.2.2.1) (by rw [up_i (by decide)]; exact h.2.2.2.2.2.1) (fun q h0 h4 => up_i (by omega)) (fun x hx => up_i (by omega))
  · rename_i hm
    obtain ⟨mS0, mS1, mS2, mB0, mB1, mB2, mCl, mN, mPl, mEc⟩ := h
    have lo : ∀ x : Int, x ≠ 10 + 6 * p + 0 → up g 15 0 0 (10 + 6 * p + 0) (g 15 0 0 (10 + 6 * p + 0) + b) 15 0 0 x = g 15 0 0 x := fun x hx => up_i hx
    unfold wm
    rw [lo 0 (by omega), lo 1 (by omega), lo 2 (by omega), lo 3 (by omega), lo 4 (by omega), lo 5 (by omega), lo 6 (by omega), lo 9 (by omega)]
    refine ⟨mS0, mS1, mS2, mB0, mB1, mB2, mCl, mN, fun q h0 h4 => ?_, fun e h0 h1 => okM_of (mEc e h0 h1) (lo 0 (by omega)) (lo 3 (by omega)) (fun x h0 h5 => lo _ (by omega))⟩
    by_cases hq : q = p
    · subst hq; rw [up_s]; omega
    · rw [lo _ (by omega)]; exact mPl q h0 h4
theorem n6_mv {g : St} {p b : Int} (h6 : n6M g) (hp : 0 ≤ p ∧ p < 4) : n6M (mvGM g p b) := by
  unfold mvGM; split
  · intro q h0 h4; rw [mUw_x (fun x hx => up_i (by omega)) q]; exact h6 q h0 h4
  · intro q h0 h4; rw [mUw_x (fun x hx => up_i (by omega)) q]; exact h6 q h0 h4
theorem mUw_dp (g : St) (c q : Int) : ∀ n : Nat, cn (mOf (dpM g c n) q) (kpM g c n).toNat ≤ cn (mOf g q) n
  | 0 => by simp [kpM, cn]
  | n + 1 => by
    have ih := mUw_dp g c q n
    have hk := kpM_in g c n
    rw [kpM, dpM]; split
    · rw [cn_s hk.1]
      have h1 : cn (mOf (cp5 (dpM g c n) (kpM g c n) n 5) q) (kpM g c n).toNat = cn (mOf (dpM g c n) q) (kpM g c n).toNat := cn_congr (fun i h0 h1 => by simp only [mOf]; rw [cp5_o (by omega)])
      have h2 : mOf (cp5 (dpM g c n) (kpM g c n) n 5) q (kpM g c n) = mOf g q n := by simp only [mOf]; rw [cp5_n (by omega), dpM_hi _ _ _ (by omega)]
      rw [h1, h2]
      show _ ≤ cn (mOf g q) n + _
      omega
    · have := cn_mono (mOf g q) (Nat.le_succ n)
      exact Int.le_trans ih this
theorem n6_dd {g : St} (h6 : n6M g) : n6M (ddG g) := by
  intro q h0 h4
  have h1 : mUw (ddG g) q = cn (mOf (dpM g (g 15 0 0 3) (g 15 0 0 9).toNat) q) (kpM g (g 15 0 0 3) (g 15 0 0 9).toNat).toNat := by
    show cn (mOf (ddG g) q) (ddG g 15 0 0 9).toNat = _
    have l9 : ddG g 15 0 0 9 = kpM g (g 15 0 0 3) (g 15 0 0 9).toNat := by unfold ddG; rw [up_s]
    rw [l9]
    exact cn_congr (fun i h0 h1 => by simp only [mOf]; unfold ddG; rw [up_i (by omega)])
  rw [h1]
  exact Int.le_trans (mUw_dp g (g 15 0 0 3) q (g 15 0 0 9).toNat) (h6 q h0 h4)
theorem n6_tu {g : St} (h : wm (g 15 0 0) 1) (hc : g 15 0 0 3 + 1 ≤ 100000) (h6 : n6M g) : n6M (tuM g).1 := by
  have hp := tpP_in (wm_mt h hc) (g 15 0 0 0 + 1).toNat
  refine n6_dd (fun q h0 h4 => ?_)
  rw [mUw_x (fun x hx => by rw [hp.1.2.1 x (by omega), mtC_x g (by omega) (by omega) (by omega)]) q]
  exact h6 q h0 h4
theorem n6_tn {g : St} (h : wm (g 15 0 0) 1) (h6 : n6M g) : ∀ n : Nat, g 15 0 0 3 + n ≤ 100000 → n6M (tuN g n).1
  | 0, _ => h6
  | n + 1, hn => by
    have hi := tuN_in h n (by omega)
    exact n6_tu hi.1 (by omega) (n6_tn h h6 n (by omega))
/-- of the numbers of the object itself a turn changes two -/
def f14 (g u : St) : Prop := (∀ x, x ≠ 12 → x ≠ 13 → u 14 0 0 x = g 14 0 0 x) ∧ ∀ f : Nat, f ≠ 14 → f ≠ 15 → u f = g f
theorem f14_tr {g u w : St} (h : f14 g u) (h2 : f14 u w) : f14 g w := ⟨fun x a b => (h2.1 x a b).trans (h.1 x a b), fun f a b => (h2.2 f a b).trans (h.2 f a b)⟩
theorem f14_of {g u : St} (h : ∀ f : Nat, f ≠ 15 → u f = g f) : f14 g u := ⟨fun x _ _ => by rw [h 14 (by decide)], fun f _ h2 => h f h2⟩
theorem f14_up {g : St} {k j i v : Int} : f14 g (up g 15 k j i v) := f14_of (fun f h => up_ff h)
theorem f14_dc (g : St) (p w : Int) : f14 g (dcM g p w) := by
  unfold dcM; split
  · exact f14_up
  · exact f14_of (fun f h => by unfold dcG dcA; rw [up_ff h, up_ff h, ad_f h, ad_f h])
theorem f14_mv (g : St) (p b : Int) : f14 g (mvGM g p b) := by unfold mvGM; split <;> exact f14_up
theorem f14_mt (g : St) : f14 g (mtC g) := by
  refine ⟨fun x h1 h2 => ?_, fun f h h5 => ?_⟩
  · unfold mtC; rw [up_f (by decide), up_f (by decide)]; unfold mtB mtA mbG; rw [up_i h2, up_i h1, up_i h2, up_i h1, up_f (by decide)]
  · unfold mtC; rw [up_ff h5, up_ff h5]; unfold mtB; rw [mbG_f _ _ h]; unfold mtA; rw [up_ff h, up_ff h, up_ff h5]
theorem f14_tu {g : St} (h : wm (g 15 0 0) 1) (hc : g 15 0 0 3 + 1 ≤ 100000) : f14 g (tuM g).1 := by
  have hp := tpP_in (wm_mt h hc) (g 15 0 0 0 + 1).toNat
  refine f14_tr (f14_tr (f14_mt g) (f14_of hp.1.2.2)) (f14_of (fun f hf => ?_))
  show ddG _ f = _
  unfold ddG; rw [up_ff hf, dpM_f _ _ hf]
theorem f14_tn {g : St} (h : wm (g 15 0 0) 1) : ∀ n : Nat, g 15 0 0 3 + n ≤ 100000 → f14 g (tuN g n).1
  | 0, _ => ⟨fun _ _ _ => rfl, fun _ _ _ => rfl⟩
  | n + 1, hn => by
    have hi := tuN_in h n (by omega)
    exact f14_tr (f14_tn h n (by omega)) (f14_tu hi.1 (by omega))
/-- the numbers of an order that was read -/
def vO (g : St) : Prop := (g 14 0 0 9 = 99 → (0 ≤ g 14 0 0 10 ∧ g 14 0 0 10 < 4) ∧ (0 ≤ g 14 0 0 11 ∧ g 14 0 0 11 ≤ 9)) ∧ (g 14 0 0 9 = 109 → (0 ≤ g 14 0 0 10 ∧ g 14 0 0 10 < 4) ∧ (-9 ≤ g 14 0 0 11 ∧ g 14 0 0 11 ≤ 9)) ∧ (g 14 0 0 9 ≠ 99 → g 14 0 0 9 ≠ 109 → 1 ≤ g 14 0 0 10 ∧ g 14 0 0 10 ≤ 99) ∧ (0 ≤ g 14 0 0 9 ∧ g 14 0 0 9 ≤ 126)
theorem at_x {g : St} {x : Int} (h : x ≠ 8) : atS g 14 0 0 x = g 14 0 0 x := up_i h
theorem dg_x {g : St} {a b x : Int} (h : x ≠ 8) : dgG g a b 14 0 0 x = g 14 0 0 x := by unfold dgG; split; exact at_x h; rfl
theorem tk_x {g : St} {c x : Int} (h : x ≠ 8) : tkG g c 14 0 0 x = g 14 0 0 x := by unfold tkG; split; exact at_x h; rfl
theorem fs_10 (g : St) (a b : Int) : fsB g a b 14 0 0 10 = dgR g a b := up_s
theorem fs_9 (g : St) (a b : Int) : fsB g a b 14 0 0 9 = g 14 0 0 9 := by unfold fsB; rw [up_i (by decide), dg_x (by decide)]
theorem sn_11 (g : St) (a b s : Int) : snB g a b s 14 0 0 11 = s * dgR g a b := up_s
theorem sn_x (g : St) (a b s : Int) {x : Int} (h : x ≠ 8) (h2 : x ≠ 11) : snB g a b s 14 0 0 x = g 14 0 0 x := by unfold snB; rw [up_i h2, dg_x h]
theorem dgR_b {g : St} {a b : Int} (h : dgR g a b ≠ -1) : a ≤ dgR g a b ∧ dgR g a b ≤ b := by
  unfold dgR at *; split
  · assumption
  · rename_i hn; rw [if_neg hn] at h; exact absurd rfl h
theorem rc_9 (g : St) : rcG g 14 0 0 9 = g 14 0 0 9 := by
  unfold rcG; (repeat' split)
  · exact fs_9 _ _ _
  · rw [sn_x _ _ _ _ (by decide) (by decide), tk_x (by decide), fs_9]
  · exact fs_9 _ _ _
theorem rw_9 (g : St) : rwG g 14 0 0 9 = g 14 0 0 9 := by
  unfold rwG; (repeat' split)
  · exact fs_9 _ _ _
  · rw [sn_x _ _ _ _ (by decide) (by decide), tk_x (by decide), fs_9]
  · rw [sn_x _ _ _ _ (by decide) (by decide), tk_x (by decide), fs_9]
  · exact fs_9 _ _ _
theorem rt_9 (g : St) : rtG g 14 0 0 9 = g 14 0 0 9 := by
  unfold rtG; (repeat' split)
  · rw [up_i (by decide), fs_9]
  · rw [up_i (by decide), dg_x (by decide), fs_9]
  · rw [up_i (by decide), dg_x (by decide), fs_9]
theorem alt_9 (g : St) : atS (ltG g) 14 0 0 9 = nx g := by rw [at_x (by decide)]; exact up_s
theorem vO_ro {g : St} (hb : wb g) (h : roR g ≠ 0) : vO (roG g) := by
  have hn := nx_in hb
  unfold roR at h
  unfold roG
  by_cases h99 : nx g = 99
  · rw [if_pos h99] at h ⊢
    have e9 : rcG (atS (ltG g)) 14 0 0 9 = 99 := by rw [rc_9, alt_9, h99]
    unfold rcR at h
    split at h
    · exact absurd rfl h
    · rename_i h1
      split at h
      · rename_i h2
        split at h
        · exact absurd rfl h
        · rename_i h3
          have b1 := dgR_b h1
          have b2 := dgR_b h3
          refine ⟨fun _ => ?_, fun hx => by omega, fun hx => absurd e9 hx, by omega⟩
          unfold rcG
          rw [if_neg h1, if_pos h2, sn_11, sn_x _ _ _ _ (by decide) (by decide), tk_x (by decide), fs_10]
          omega
      · exact absurd rfl h
  · rw [if_neg h99] at h ⊢
    by_cases h109 : nx g = 109
    · rw [if_pos h109] at h ⊢
      have e9 : rwG (atS (ltG g)) 14 0 0 9 = 109 := by rw [rw_9, alt_9, h109]
      unfold rwR at h
      split at h
      · exact absurd rfl h
      · rename_i h1
        have b1 := dgR_b h1
        split at h
        · rename_i h2
          split at h
          · exact absurd rfl h
          · rename_i h3
            have b2 := dgR_b h3
            refine ⟨fun hx => by omega, fun _ => ?_, fun _ hx => absurd e9 hx, by omega⟩
            unfold rwG
            rw [if_neg h1, if_pos h2, sn_11, sn_x _ _ _ _ (by decide) (by decide), tk_x (by decide), fs_10]
            omega
        · rename_i h2
          split at h
          · rename_i h4
            split at h
            · exact absurd rfl h
            · rename_i h3
              have b2 := dgR_b h3
              refine ⟨fun hx => by omega, fun _ => ?_, fun _ hx => absurd e9 hx, by omega⟩
              unfold rwG
              rw [if_neg h1, if_neg h2, if_pos h4, sn_11, sn_x _ _ _ _ (by decide) (by decide), tk_x (by decide), fs_10]
              omega
          · exact absurd rfl h
    · rw [if_neg h109] at h ⊢
      by_cases h116 : nx g = 116
      · rw [if_pos h116] at h ⊢
        have e9 : rtG (atS (ltG g)) 14 0 0 9 = 116 := by rw [rt_9, alt_9, h116]
        unfold rtR at h
        split at h
        · exact absurd rfl h
        · rename_i h1
          have b1 := dgR_b h1
          refine ⟨fun hx => by omega, fun hx => by omega, fun _ _ => ?_, by omega⟩
          unfold rtG
          rw [if_neg h1]
          split
          · rw [up_s]; omega
          · rename_i h2
            have b2 := dgR_b h2
            rw [up_s]; omega
      · rw [if_neg h116] at h; exact absurd rfl h
def rI (g : St) : Prop := wb g ∧ wm (g 15 0 0) 1 ∧ n6M g
theorem f14_do {g : St} (h : wm (g 15 0 0) 1) (hv : vO g) : f14 g (doM g) := by
  unfold doM; (repeat' split)
  · exact f14_dc _ _ _
  · exact f14_mv _ _ _
  · have := hv.2.2.1 (by assumption) (by assumption)
    exact f14_tn h _ (by omega)
  · exact ⟨fun _ _ _ => rfl, fun _ _ _ => rfl⟩
theorem wm_do {g : St} (h : wm (g 15 0 0) 1) (h6 : n6M g) (hv : vO g) : wm (doM g 15 0 0) 1 ∧ n6M (doM g) := by
  unfold doM; (repeat' split)
  · have := hv.1 (by assumption); exact ⟨wm_dc h h6 this.1 this.2, n6_dc h h6 this.1⟩
  · have := hv.2.1 (by assumption); exact ⟨wm_mv h this.1, n6_mv h6 this.1⟩
  · have := hv.2.2.1 (by assumption) (by assumption)
    exact ⟨(tuN_in h _ (by omega)).1, n6_tn h h6 _ (by omega)⟩
  · exact ⟨h, h6⟩
theorem wb_14 {g u : St} (h : wb g) (hf : f14 g u) : wb u := by
  unfold wb at *
  rw [hf.1 7 (by decide) (by decide), hf.1 8 (by decide) (by decide), hf.2 19 (by decide) (by decide)]
  exact h
theorem wb_at {g : St} (h : wb g) (h8 : g 14 0 0 8 ≤ 99) : wb (atS g) := by
  obtain ⟨h1, h2, h3⟩ := h
  refine ⟨by rw [at_x (by decide)]; exact h1, by unfold atS; rw [up_s]; omega, fun i h0 h6 => ?_⟩
  have := h3 i h0 h6
  unfold atS; rw [up_ff (by decide)]; exact this
theorem ro_15 {g : St} (h : wb g) : roG g 15 = g 15 := by funext k j x; exact (fw_ro h).2.2 15 k j x (by omega)
theorem rI_ro {g : St} (h : rI g) : rI (roG g) := by
  have e := ro_15 h.1
  exact ⟨(fw_ro h.1).1, by rw [e]; exact h.2.1, fun p h0 h4 => by rw [mUw_15 e]; exact h.2.2 p h0 h4⟩
theorem rI_do {g : St} (h : rI g) (hv : vO g) : rI (doM g) := ⟨wb_14 h.1 (f14_do h.2.1 hv), wm_do h.2.1 h.2.2 hv⟩
theorem rI_at {g : St} (h : rI g) (h8 : g 14 0 0 8 ≤ 99) : rI (atS g) := ⟨wb_at h.1 h8, by unfold atS; rw [up_ff (by decide)]; exact h.2.1, fun p h0 h4 => by rw [mUw_15 (show atS g 15 = g 15 from up_ff (by decide))]; exact h.2.2 p h0 h4⟩
def rnM : Nat → St → St × Int
  | 0, g => (g, 0)
  | n + 1, g => if ¬ g 14 0 0 8 < g 14 0 0 7 then (g, 0) else if roR g = 0 then (atS (roG g), 0) else if doR (roG g) = 0 then (atS (doM (roG g)), 0) else ((rnM n (atS (doM (roG g)))).1, 1 + (rnM n (atS (doM (roG g)))).2)
theorem rnM_e {g : St} (h : g 14 0 0 7 ≤ g 14 0 0 8) : ∀ n : Nat, rnM n g = (g, 0)
  | 0 => rfl
  | n + 1 => by rw [rnM, if_pos (by omega)]
theorem doR_01 (g : St) : doR g = 0 ∨ doR g = 1 := by unfold doR; (repeat' split) <;> simp
def rn0 (g : St) : St := up (svM (fe 61 (up (t0 g) 14 0 0 8 0)).1) 14 0 0 8 0

theorem rn0_I {g : St} (hb : wb g) (hm : wm (g 15 0 0) 1) (h6 : n6M g) : rI (rn0 g) := by
  have hfe := (fe_in 61 (wb_up8 (show wb (t0 g) from wb_up hb (by decide) (by decide)))).1
  have f15 : rn0 g 15 = g 15 := by
    unfold rn0; rw [up_ff (by decide), svM_f _ (by decide) (by decide)]
    funext k j x; rw [hfe.2.2 15 k j x (by omega), up_ff (by decide), t0_f (by decide)]
  refine ⟨?_, by rw [f15]; exact hm, fun p h0 h4 => by rw [mUw_15 f15]; exact h6 p h0 h4⟩
  have hw := hfe.1
  have e19 : rn0 g 19 = (fe 61 (up (t0 g) 14 0 0 8 0)).1 19 := by unfold rn0; rw [up_ff (by decide), svM_f _ (by decide) (by decide)]
  have e7 : rn0 g 14 0 0 7 = (fe 61 (up (t0 g) 14 0 0 8 0)).1 14 0 0 7 := by
    unfold rn0; rw [up_i (by decide)]
    unfold svM; rw [up_i (by decide)]; simp only [cpM]; rw [if_neg (by omega)]
    unfold svA; split
    · rw [up_i (by decide)]; simp only [shM]; rw [if_neg (by omega)]
    · rfl
  have e8 : rn0 g 14 0 0 8 = 0 := up_s
  unfold wb at *
  rw [e19, e7, e8]
  exact ⟨hw.1, by decide, hw.2.2⟩

def shMM (g : St) : UInt64 := shD (sumM g 3) (sumM g 3 + sumM g 4 + sumM g 5)
def hs (f : Int → Int) : Nat → Int → Int
  | 0, h => h
  | n + 1, h => 31 * hs f n h + f n
theorem hs_s (f : Int → Int) {i h : Int} (hi : 0 ≤ i) : hs f (i + 1).toNat h = 31 * hs f i.toNat h + f i := by
  rw [show (i + 1).toNat = i.toNat + 1 by omega, hs, show ((i.toNat : Nat) : Int) = i by omega]

theorem ctN_rg {g : St} {d w : Int} (h : wf g 0 d) (hc : ctr g 0) (h8 : 0 ≤ g 8 0 0 1 ∧ g 8 0 0 1 ≤ 6) (hr : 0 ≤ g 1 0 0 1 ∧ g 1 0 0 1 ≤ 100000000) : rg (ctN g w) := by
  have s2 := smN_in (w := 2) h hc (by decide)
  have s4 := smN_in (w := 4) h hc (by decide)
  have s5 := smN_in (w := 5) h hc (by decide)
  have s6 := smN_in (w := 6) h hc (by decide)
  have s1 := smN_in (w := 1) h hc (by decide)
  obtain ⟨hS0, hS1, hS2, hB0, hB1, hB2, hCl, hN, -⟩ := h
  unfold ctN nbN rg; (repeat' split) <;> omega
theorem ecN_rg {g : St} {k d r w : Int} (h : wf g k d) (hd : 0 ≤ d) : rg (ecN g k r w) := by
  obtain ⟨hS0, hS1, hS2, hB0, hB1, hB2, hCl, hN, hPl, hPm, hPj, hEc, hSo⟩ := h
  unfold ecN; split
  · unfold rg; omega
  · have he := hEc r (by omega) (by omega)
    unfold okE at he
    unfold eF rg; (repeat' split) <;> omega

def cqu (g : St) : Int := if 0 < g 1 0 0 2 then eF g 0 (g 1 0 0 2 - 1) 3 - g 1 0 0 0 else 0

