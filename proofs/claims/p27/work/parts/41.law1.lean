/-! the law's own row of numbers (families 14 to 17: q, p, e, f), and what it is of a reference's row -/
def lev (g : St) (i : Int) : E5 := (g 17 0 0 i / 10 % 10, g 17 0 0 i / 100, g 17 0 0 i % 10, g 16 0 0 i / 2, g 16 0 0 i % 2)
def lls (g : St) : List E5 := (List.range (g 14 0 0 9).toNat).map (fun i : Nat => lev g i)
def eml (g : St) (x : Int) : Int := if x < 10 then (if x = 6 then (g 14 0 0 6 + 1) / 2 else g 14 0 0 x) else if x < 34 then g 15 0 0 (x - 10) else if (x - 34) % 5 = 0 then g 17 0 0 ((x - 34) / 5) / 10 % 10 else if (x - 34) % 5 = 1 then g 17 0 0 ((x - 34) / 5) / 100 else if (x - 34) % 5 = 2 then g 17 0 0 ((x - 34) / 5) % 10 else if (x - 34) % 5 = 3 then g 16 0 0 ((x - 34) / 5) / 2 else g 16 0 0 ((x - 34) / 5) % 2
def em (g : St) : St := fun f _ _ x => if f = 15 then eml g x else 0
theorem em_q {g : St} {x : Int} (h : x < 10) (h6 : x ≠ 6) : em g 15 0 0 x = g 14 0 0 x := by
  show eml g x = _
  unfold eml; rw [if_pos h, if_neg h6]
theorem em_6 (g : St) : em g 15 0 0 6 = (g 14 0 0 6 + 1) / 2 := by
  show eml g 6 = _
  unfold eml; rw [if_pos (by decide), if_pos rfl]
theorem em_p {g : St} {p x : Int} (hp : 0 ≤ p ∧ p < 4) (hx : 0 ≤ x ∧ x < 6) : em g 15 0 0 (10 + 6 * p + x) = g 15 0 0 (6 * p + x) := by
  show eml g _ = _
  unfold eml
  rw [if_neg (by omega), if_pos (by omega)]
  congr 1; omega
theorem em_e {g : St} {e : Int} (h : 0 ≤ e) : em g 15 0 0 (34 + 5 * e + 0) = g 17 0 0 e / 10 % 10 ∧ em g 15 0 0 (34 + 5 * e + 1) = g 17 0 0 e / 100 ∧ em g 15 0 0 (34 + 5 * e + 2) = g 17 0 0 e % 10 ∧ em g 15 0 0 (34 + 5 * e + 3) = g 16 0 0 e / 2 ∧ em g 15 0 0 (34 + 5 * e + 4) = g 16 0 0 e % 2 := by
  refine ⟨?_, ?_, ?_, ?_, ?_⟩
  · show eml g _ = _
    unfold eml
    rw [if_neg (by omega), if_neg (by omega), if_pos (by omega), show (34 + 5 * e + 0 - 34) / 5 = e by omega]
  · show eml g _ = _
    unfold eml
    rw [if_neg (by omega), if_neg (by omega), if_neg (by omega), if_pos (by omega), show (34 + 5 * e + 1 - 34) / 5 = e by omega]
  · show eml g _ = _
    unfold eml
    rw [if_neg (by omega), if_neg (by omega), if_neg (by omega), if_neg (by omega), if_pos (by omega), show (34 + 5 * e + 2 - 34) / 5 = e by omega]
  · show eml g _ = _
    unfold eml
    rw [if_neg (by omega), if_neg (by omega), if_neg (by omega), if_neg (by omega), if_neg (by omega), if_pos (by omega), show (34 + 5 * e + 3 - 34) / 5 = e by omega]
  · show eml g _ = _
    unfold eml
    rw [if_neg (by omega), if_neg (by omega), if_neg (by omega), if_neg (by omega), if_neg (by omega), if_neg (by omega), show (34 + 5 * e + 4 - 34) / 5 = e by omega]
theorem em_ev {g : St} {i : Int} (h : 0 ≤ i) : mev (em g) i = lev g i := by
  obtain ⟨a, b, c, d, e⟩ := em_e (g := g) h
  unfold mev lev
  rw [a, b, c, d, e]
theorem mls_em (g : St) : mls (em g) = lls g := by
  unfold mls lls
  rw [em_q (by decide) (by decide)]
  exact List.map_congr_left (fun i _ => em_ev (by omega))
def lOf (g : St) (p : Int) : Int → Bool := fun e => decide (g 17 0 0 e / 10 % 10 = p)
def lDu (g : St) (p t : Int) : Int → Bool := fun e => decide (g 17 0 0 e / 100 = p ∧ g 16 0 0 e / 2 = t)
abbrev lUw (g : St) (p : Int) : Int := cn (lOf g p) (g 14 0 0 9).toNat
abbrev lCo (g : St) (p t : Int) : Int := cn (lDu g p t) (g 14 0 0 9).toNat
def lDl (g : St) (p w : Int) : Int := dly (g 14 0 0 0) (g 14 0 0 1) (g 14 0 0 2) p w
theorem lUw_em (g : St) (p : Int) : mUw (em g) p = lUw g p := by
  unfold mUw lUw
  rw [em_q (by decide) (by decide)]
  exact cn_congr (fun i h0 _ => by unfold mOf lOf; rw [(em_e h0).1])
theorem lCo_em (g : St) (p t : Int) : mCo (em g) p t = lCo g p t := by
  unfold mCo lCo
  rw [em_q (by decide) (by decide)]
  exact cn_congr (fun i h0 _ => by unfold mDu lDu; rw [(em_e h0).2.1, (em_e h0).2.2.2.1])
theorem lDl_em (g : St) (p w : Int) : mDl (em g) p w = lDl g p w := by
  unfold mDl lDl
  rw [em_q (by decide) (by decide), em_q (by decide) (by decide), em_q (by decide) (by decide)]
theorem lD1_em {g : St} {p : Int} (hp : 0 ≤ p ∧ p < 4) (w : Int) : mD1 (em g) p w = lDl g (g 15 0 0 (6 * p)) w := by
  show mDl (em g) _ w = _
  rw [lDl_em, em_p hp (by decide), show 6 * p + 0 = 6 * p by omega]
theorem lUw_in (g : St) (p : Int) : 0 ≤ lUw g p ∧ lUw g p ≤ (g 14 0 0 9).toNat := cn_nn _ _
theorem lCo_in (g : St) (p t : Int) : 0 ≤ lCo g p t ∧ lCo g p t ≤ (g 14 0 0 9).toNat := cn_nn _ _
/-- ranges of the law's rows -/
def eR (g : St) : Prop := (0 ≤ g 14 0 0 9 ∧ g 14 0 0 9 ≤ 24) ∧ ∀ e, 0 ≤ e → e < g 14 0 0 9 → (0 ≤ g 17 0 0 e ∧ g 17 0 0 e ≤ 5000) ∧ (0 ≤ g 16 0 0 e ∧ g 16 0 0 e ≤ 1000000)
def wq (g : St) (d : Int) : Prop := wm (em g 15 0 0) d ∧ (g 14 0 0 6 = 1 ∨ g 14 0 0 6 = -1) ∧ (∀ i, 0 ≤ i → i < 24 → 0 ≤ g 15 0 0 i ∧ g 15 0 0 i ≤ 200000) ∧ (0 ≤ g 14 0 0 7 ∧ g 14 0 0 7 ≤ 200000) ∧ (0 ≤ g 14 0 0 8 ∧ g 14 0 0 8 ≤ 200000)
theorem wq_s {g : St} {d : Int} (h : wq g d) : (8 ≤ g 14 0 0 0 ∧ g 14 0 0 0 ≤ 40) ∧ (1 ≤ g 14 0 0 1 ∧ g 14 0 0 1 ≤ 9) ∧ (0 ≤ g 14 0 0 2 ∧ g 14 0 0 2 ≤ 5) ∧ (0 ≤ g 14 0 0 4 ∧ g 14 0 0 4 ≤ g 14 0 0 0) ∧ (1 ≤ g 14 0 0 5 ∧ g 14 0 0 5 ≤ 9) ∧ (0 ≤ g 14 0 0 3 ∧ g 14 0 0 3 ≤ 100000) ∧ (0 ≤ g 14 0 0 9 ∧ g 14 0 0 9 ≤ 24) ∧ (∀ p, 0 ≤ p → p < 4 → 0 ≤ g 15 0 0 (6 * p) ∧ g 15 0 0 (6 * p) ≤ g 14 0 0 0) ∧ (∀ e, 0 ≤ e → e < g 14 0 0 9 → (0 ≤ g 17 0 0 e ∧ g 17 0 0 e ≤ 4099) ∧ g 17 0 0 e / 10 % 10 < 4 ∧ g 17 0 0 e / 100 ≤ g 14 0 0 0 ∧ (g 14 0 0 3 + d ≤ g 16 0 0 e / 2 ∧ g 16 0 0 e / 2 ≤ g 14 0 0 3 + 200)) := by
  obtain ⟨⟨mS0, mS1, mS2, mB0, mB1, mB2, mCl, mN, mPl, mEc⟩, -⟩ := h
  rw [em_q (by decide) (by decide)] at mS0 mS1 mS2 mB1 mCl mN
  rw [em_q (x := 4) (by decide) (by decide), em_q (x := 0) (by decide) (by decide)] at mB0
  refine ⟨mS0, mS1, mS2, mB0, mB1, mCl, mN, fun p a b => ?_, fun e a b => ?_⟩
  · have h1 := mPl p a b
    rw [em_p ⟨a, b⟩ (by decide), em_q (by decide) (by decide), show 6 * p + 0 = 6 * p by omega] at h1
    exact h1
  · have h1 := mEc e a (by rw [em_q (by decide) (by decide)]; exact b)
    unfold okM at h1
    obtain ⟨e0, e1, e2, e3, e4⟩ := em_e (g := g) a
    rw [e0, e1, e2, e3, e4, em_q (x := 0) (by decide) (by decide), em_q (x := 3) (by decide) (by decide)] at h1
    omega
theorem wq_eR {g : St} {d : Int} (h : wq g d) (hd : 0 ≤ d) : eR g := by
  obtain ⟨-, -, -, -, -, h3, h9, -, hE⟩ := wq_s h
  exact ⟨h9, fun e a b => by have := hE e a b; omega⟩
/-- a number of 31 bits, and what is left of it -/
def lw (v n : Int) : Int := (iI v &&& iI 2147483647).toInt % n
theorem lw0 (v : Int) : 0 ≤ (iI v &&& iI 2147483647).toInt := by
  have h1 : (iI v &&& iI 2147483647).toBitVec.toNat ≤ 2147483647 := by
    rw [Int32.toBitVec_and, BitVec.toNat_and]
    exact Nat.and_le_right
  have h2 : (iI v &&& iI 2147483647).toInt = ((iI v &&& iI 2147483647).toBitVec.toNat : Int) := by
    rw [← Int32.toInt_toBitVec]; exact BitVec.toInt_eq_toNat_of_lt (by omega)
  omega
theorem lw_in (v : Int) {n : Int} (h : 1 ≤ n) : 0 ≤ lw v n ∧ lw v n < n := ⟨Int.emod_nonneg _ (by omega), Int.emod_lt_of_pos _ (by omega)⟩
theorem cd1 {a b : Int} (h : 1 ≤ b) : (a + b) / b = a / b + 1 := by
  have e := Int.add_mul_ediv_right a 1 (show b ≠ 0 by omega)
  rw [Int.one_mul] at e
  exact e
/-- the ball's walk -/
def lmG (g : St) (n : Nat) : St := up (up g 14 0 0 4 (bwalk (g 14 0 0 0) n (g 14 0 0 4, (g 14 0 0 6 + 1) / 2)).1) 14 0 0 6 (2 * (bwalk (g 14 0 0 0) n (g 14 0 0 4, (g 14 0 0 6 + 1) / 2)).2 - 1)
theorem lm_0 {g : St} (h : g 14 0 0 6 = 1 ∨ g 14 0 0 6 = -1) : lmG g 0 = g := by
  have e : 2 * ((g 14 0 0 6 + 1) / 2) - 1 = g 14 0 0 6 := by omega
  funext f k j x
  simp only [lmG, bwalk, up]
  by_cases h1 : f = 14 ∧ k = 0 ∧ j = 0 ∧ x = 6
  · obtain ⟨rfl, rfl, rfl, rfl⟩ := h1
    rw [if_pos ⟨rfl, rfl, rfl, rfl⟩]; exact e
  · rw [if_neg h1]
    by_cases h2 : f = 14 ∧ k = 0 ∧ j = 0 ∧ x = 4
    · obtain ⟨rfl, rfl, rfl, rfl⟩ := h2
      rw [if_pos ⟨rfl, rfl, rfl, rfl⟩]
    · rw [if_neg h2]
theorem lm_s (g : St) (n : Nat) {r p : Int} (hr : r = 2 * stepR (bwalk (g 14 0 0 0) n (g 14 0 0 4, (g 14 0 0 6 + 1) / 2)).1 (bwalk (g 14 0 0 0) n (g 14 0 0 4, (g 14 0 0 6 + 1) / 2)).2 (g 14 0 0 0) - 1) (hp : p = stepP (bwalk (g 14 0 0 0) n (g 14 0 0 4, (g 14 0 0 6 + 1) / 2)).1 (bwalk (g 14 0 0 0) n (g 14 0 0 4, (g 14 0 0 6 + 1) / 2)).2 (g 14 0 0 0)) : up (up (lmG g n) 14 0 0 6 r) 14 0 0 4 p = lmG g (n + 1) := by
  have h1 : (bwalk (g 14 0 0 0) (n + 1) (g 14 0 0 4, (g 14 0 0 6 + 1) / 2)).1 = p := by rw [hp]; rfl
  have h2 : 2 * (bwalk (g 14 0 0 0) (n + 1) (g 14 0 0 4, (g 14 0 0 6 + 1) / 2)).2 - 1 = r := by rw [hr]; rfl
  unfold lmG
  rw [h1, h2]
  funext f k j x; simp only [up]; grind
theorem lm_f (g : St) (n : Nat) {f : Nat} (h : f ≠ 14) : lmG g n f = g f := by unfold lmG; rw [up_ff h, up_ff h]
theorem lm_x (g : St) (n : Nat) {x : Int} (h4 : x ≠ 4) (h6 : x ≠ 6) : lmG g n 14 0 0 x = g 14 0 0 x := by unfold lmG; rw [up_i h6, up_i h4]
theorem lm_4 (g : St) (n : Nat) : lmG g n 14 0 0 4 = (bwalk (g 14 0 0 0) n (g 14 0 0 4, (g 14 0 0 6 + 1) / 2)).1 := by unfold lmG; rw [up_i (by decide), up_s]
theorem lm_6 (g : St) (n : Nat) : lmG g n 14 0 0 6 = 2 * (bwalk (g 14 0 0 0) n (g 14 0 0 4, (g 14 0 0 6 + 1) / 2)).2 - 1 := by unfold lmG; rw [up_s]
/-- a call -/
def lcR (g : St) (p : Int) : Int := if 4 < lUw g p then -1 else if lDl g (g 15 0 0 (6 * p)) 0 < lDl g (g 15 0 0 (6 * p)) 1 then lDl g (g 15 0 0 (6 * p)) 0 else lDl g (g 15 0 0 (6 * p)) 1
def lc1 (g : St) (p w y : Int) : St := up (up (up g 16 0 0 (g 14 0 0 9) (2 * (g 14 0 0 3 + lDl g (g 15 0 0 (6 * p)) y) + y)) 17 0 0 (g 14 0 0 9) (100 * g 15 0 0 (6 * p) + 10 * p + w)) 14 0 0 9 (g 14 0 0 9 + 1)
def lcA (g : St) (p w : Int) : St := up (up (lc1 (lc1 g p w 0) p w 1) 14 0 0 8 (g 14 0 0 8 + 2)) 15 0 0 (6 * p + 2) (g 15 0 0 (6 * p + 2) + 1)
def lcG (g : St) (p w : Int) : St := if 4 < lUw g p then up g 14 0 0 7 (g 14 0 0 7 + 1) else lcA g p w
theorem lc1_dl (g : St) (p w y a b : Int) : lDl (lc1 g p w y) a b = lDl g a b := by unfold lDl lc1; simp only [up]; grind
theorem lcA_eq (g : St) (p w : Int) : lcA g p w = up (up (up (up (up (up (up (up g 16 0 0 (g 14 0 0 9) (2 * (g 14 0 0 3 + lDl g (g 15 0 0 (6 * p)) 0) + 0)) 17 0 0 (g 14 0 0 9) (100 * g 15 0 0 (6 * p) + 10 * p + w)) 14 0 0 9 (g 14 0 0 9 + 1)) 16 0 0 (g 14 0 0 9 + 1) (2 * (g 14 0 0 3 + lDl g (g 15 0 0 (6 * p)) 1) + 1)) 17 0 0 (g 14 0 0 9 + 1) (100 * g 15 0 0 (6 * p) + 10 * p + w)) 14 0 0 9 (g 14 0 0 9 + 1 + 1)) 14 0 0 8 (g 14 0 0 8 + 2)) 15 0 0 (6 * p + 2) (g 15 0 0 (6 * p + 2) + 1) := by
  have e9 : lc1 g p w 0 14 0 0 9 = g 14 0 0 9 + 1 := by unfold lc1; rw [up_s]
  have e3 : lc1 g p w 0 14 0 0 3 = g 14 0 0 3 := by unfold lc1; rw [up_i (by decide), up_f (by decide), up_f (by decide)]
  have e15 : lc1 g p w 0 15 = g 15 := by unfold lc1; rw [up_ff (by decide), up_ff (by decide), up_ff (by decide)]
  unfold lcA
  rw [show lc1 (lc1 g p w 0) p w 1 = up (up (up (lc1 g p w 0) 16 0 0 (lc1 g p w 0 14 0 0 9) (2 * (lc1 g p w 0 14 0 0 3 + lDl (lc1 g p w 0) (lc1 g p w 0 15 0 0 (6 * p)) 1) + 1)) 17 0 0 (lc1 g p w 0 14 0 0 9) (100 * lc1 g p w 0 15 0 0 (6 * p) + 10 * p + w)) 14 0 0 9 (lc1 g p w 0 14 0 0 9 + 1) from rfl, lc1_dl, e9, e3, e15]
  rfl
/-- how far something lies -/
def lrN (g : St) : Int := mxN (fun e => g 17 0 0 e / 100) (g 14 0 0 9).toNat (mxN (fun p => g 15 0 0 (6 * p)) 4 (g 14 0 0 4))
theorem rmN_s {f : Int → Int} {i b a : Int} (h : 0 ≤ i) : (if mxN f (i + 1).toNat b ≤ a then (1 : Int) else 0) = if (mxN f i.toNat b ≤ a ∧ f i ≤ a) then 1 else 0 := by simp only [mxN_at h]

theorem cw_RL_61 : CWs RL 61 yL_many cL_many 5 (some .int) 3 := ⟨u_16_14, u_16_15, u_3_22, u_16_16, by decide +kernel⟩
theorem cw_RL_67 : CWs RL 67 yL_delay cL_delay 6 (some .int) 3 := ⟨u_16_17, u_16_18, u_3_22, u_16_19, by decide +kernel⟩
set_option maxHeartbeats 4000000 in
set_option maxRecDepth 100000 in
theorem ct_L_low (l : Launch) (L : Lay) (g : St) (v n : Int) (hrv : rg v) (hn : 1 ≤ n ∧ n ≤ 1000) : Met l yL_low (.code yL_low cL_low 2 (some .int) :: wsL_law) { frames := 0, cells := 0, slots := 0, locals := 0 } (va_Pc [.int (iI v), .int (iI n)] (HS L g)) (va_Qi (fun (r9 : Int32) (u9 : St) => r9 = iI (lw v n) ∧ u9 = g) (fun u t => HS L u t) (Af L)) 0 0 (Af L) := by
  refine ct_mk (by decide +kernel) (Nat.le_of_ble_eq_true rfl) ?_
  intro pp ee ss mm bel mth cx C hr hlk
  show V pp l ee { frames := 0, cells := 0, slots := 0, locals := 0 } ss mm ([.int (iI v), .int (iI n)]).toArray bel mth cx 2 L (HH L g) 0 0 _ 0 [(0, .int (iI v)), (1, .int (iI n))] []
  refine v_iload_n (pc := 0) C 0 rfl rfl dL_low_0 ?_
  refine v_ldc (pc := 1) (z := 2147483647) C (by decide +kernel) u_4_5 dL_low_1 ?_
  refine v_iandz (pc := 3) C dL_low_3 ?_
  refine v_iload_n (pc := 4) C 1 rfl rfl dL_low_4 ?_
  refine v_irem (pc := 5) C (⟨iI_rg _, ⟨by omega, by omega⟩, lw0 v, by omega⟩) dL_low_5 ?_
  exact v_iret (pc := 6) C hr hlk (⟨congrArg iI (by rfl), rfl⟩) dL_low_6
set_option maxHeartbeats 4000000 in
set_option maxRecDepth 100000 in
theorem ct_L_delay (l : Launch) (L : Lay) (g : St) (p w : Int) (hS0 : 8 ≤ g 14 0 0 0 ∧ g 14 0 0 0 ≤ 40) (hS1 : 1 ≤ g 14 0 0 1 ∧ g 14 0 0 1 ≤ 9) (hS2 : 0 ≤ g 14 0 0 2 ∧ g 14 0 0 2 ≤ 5) (hp : 0 ≤ p ∧ p ≤ g 14 0 0 0) (hw : 0 ≤ w ∧ w ≤ 1) : Met l yL_delay (.code yL_delay cL_delay 6 (some .int) :: wsL_law) { frames := 0, cells := 0, slots := 0, locals := 0 } (va_Pc [.int (iI p), .int (iI w), .ref (adr L 14 0 0)] (HS L g)) (va_Qi (fun (r9 : Int32) (u9 : St) => r9 = iI (lDl g p w) ∧ u9 = g) (fun u t => HS L u t) (Af L)) 0 0 (Af L) := by
  refine ct_mk (by decide +kernel) (Nat.le_of_ble_eq_true rfl) ?_
  intro pp ee ss mm bel mth cx C hr hlk
  show V pp l ee { frames := 0, cells := 0, slots := 0, locals := 0 } ss mm ([.int (iI p), .int (iI w), .ref (adr L 14 0 0)]).toArray bel mth cx 6 L (HH L g) 0 0 _ 0 [(0, .int (iI p)), (1, .int (iI w)), (2, .ref (adr L 14 0 0))] []
  refine v_iload_n (pc := 0) C 1 rfl rfl dL_delay_0 ?_
  refine v_if_ne (pc := 1) C 8 ⟨by (first | assumption | omega | (unfold rg; omega)), by (first | assumption | omega | (unfold rg; omega))⟩ (by decide) dL_delay_1 (fun h1 => ?_) (fun h1 => ?_)
  · skip
    refine v_aload_n (pc := 8) C 2 rfl rfl dL_delay_8 ?_
    refine v_iconst (pc := 9) C dL_delay_9 ?_
    refine al_14 (pc := 10) C ⟨by (first | assumption | omega | (unfold rg; omega)), by (first | assumption | omega | (unfold rg; omega))⟩ dL_delay_10 (g 14 0 0 0) (rfl) ?_
    refine v_iload_n (pc := 11) C 0 rfl rfl dL_delay_11 ?_
    refine v_isub (pc := 12) C dL_delay_12 ?_
    refine v_istore_n (pc := 13) C [(3, .int (iI ((g 14 0 0 0) - p))), (0, .int (iI p)), (1, .int (iI w)), (2, .ref (adr L 14 0 0))] rfl (by decide) rfl dL_delay_13 ?_
    refine v_aload_n (pc := 14) C 3 rfl rfl dL_delay_14 ?_
    refine v_iconst (pc := 15) C dL_delay_15 ?_
    refine al_14 (pc := 16) C ⟨by (first | assumption | omega | (unfold rg; omega)), by (first | assumption | omega | (unfold rg; omega))⟩ dL_delay_16 (g 14 0 0 2) (rfl) ?_
    refine v_istore (pc := 17) C [(4, .int (iI (g 14 0 0 2))), (3, .int (iI ((g 14 0 0 0) - p))), (0, .int (iI p)), (1, .int (iI w)), (2, .ref (adr L 14 0 0))] (by decide) rfl dL_delay_17 ?_
    refine v_iconst (pc := 19) C dL_delay_19 ?_
    refine v_istore (pc := 20) C [(5, .int (iI 0)), (4, .int (iI (g 14 0 0 2))), (3, .int (iI ((g 14 0 0 0) - p))), (0, .int (iI p)), (1, .int (iI w)), (2, .ref (adr L 14 0 0))] (by decide) rfl dL_delay_20 ?_
    have lb22 : ∀ (n9 : Nat) (y : Int) (t : Int) (c : Int), (y = (if w = 0 then p else g 14 0 0 0 - p)) → (0 ≤ y ∧ y ≤ 40) → (0 ≤ c ∧ c ≤ 2 * y + 8) → (c ≤ 2 * y + g 14 0 0 1 - 1) → (t + (2 * y - c + g 14 0 0 1 - 1) / g 14 0 0 1 = (2 * y + g 14 0 0 1 - 1) / g 14 0 0 1 + g 14 0 0 2) → (0 ≤ t) → (2 * y - c).toNat < n9 → V pp l ee { frames := 0, cells := 0, slots := 0, locals := 0 } ss mm ([.int (iI p), .int (iI w), .ref (adr L 14 0 0)]).toArray bel mth cx 6 L (HH L g) 0 0 (MQ bel (va_Qi (fun (r9 : Int32) (u9 : St) => r9 = iI (lDl g p w) ∧ u9 = g) (fun u t => HS L u t) (Af L)) ([.int (iI p), .int (iI w), .ref (adr L 14 0 0)]).toArray ss 0 0 (Af L)) 22 [(0, .int (iI p)), (1, .int (iI w)), (2, .ref (adr L 14 0 0)), (3, .int (iI y)), (4, .int (iI t)), (5, .int (iI c))] [] := by
      intro n9
      induction n9 with
      | zero => intro y t c hy hyy hc hcc ht htt hm9; exact absurd hm9 (Nat.not_lt_zero _)
      | succ n9 ih9 =>
        intro y t c hy hyy hc hcc ht htt hm9
        have hb1 : 0 ≤ (2 * y - c + g 14 0 0 1 - 1) / g 14 0 0 1 := Int.ediv_nonneg (by omega) (by omega)
        have hb2 : (2 * y + g 14 0 0 1 - 1) / g 14 0 0 1 ≤ 2 * y + g 14 0 0 1 - 1 := Int.ediv_le_self _ (by omega)
        have ih22 := ih9
        refine v_iload (pc := 22) C 5 rfl dL_delay_22 ?_
        refine v_iconst (pc := 24) C dL_delay_24 ?_
        refine v_iload_n (pc := 25) C 3 rfl rfl dL_delay_25 ?_
        refine v_imul (pc := 26) C dL_delay_26 ?_
        refine v_icmp_ge (pc := 27) C 44 ⟨by (first | assumption | omega | (unfold rg; omega)), by (first | assumption | omega | (unfold rg; omega))⟩ ⟨by (first | assumption | omega | (unfold rg; omega)), by (first | assumption | omega | (unfold rg; omega))⟩ (by decide) dL_delay_27 (fun h27 => ?_) (fun h27 => ?_)
        · skip
          have hz : (2 * y - c + g 14 0 0 1 - 1) / g 14 0 0 1 = 0 := Int.ediv_eq_zero_of_lt (by omega) (by omega)
          refine v_iload (pc := 44) C 4 rfl dL_delay_44 ?_
          refine v_if_ne (pc := 46) C 53 ⟨by (first | assumption | omega | (unfold rg; omega)), by (first | assumption | omega | (unfold rg; omega))⟩ (by decide) dL_delay_46 (fun h46 => ?_) (fun h46 => ?_)
          · skip
            refine v_iload (pc := 53) C 4 rfl dL_delay_53 ?_
            exact v_iret (pc := 55) C hr hlk (⟨congrArg iI (by unfold lDl dly; rw [← hy, Int.max_def]; split <;> omega), rfl⟩) dL_delay_55
          · skip
            refine v_iconst (pc := 49) C dL_delay_49 ?_
            refine v_goto (pc := 50) C 55 (by decide) dL_delay_50 ?_
            exact v_iret (pc := 55) C hr hlk (⟨congrArg iI (by unfold lDl dly; rw [← hy, Int.max_def]; split <;> omega), rfl⟩) dL_delay_55
        · skip
          refine v_iinc (pc := 30) C 4 [(4, .int (iI (t + 1))), (0, .int (iI p)), (1, .int (iI w)), (2, .ref (adr L 14 0 0)), (3, .int (iI y)), (5, .int (iI c))] rfl (by decide) rfl dL_delay_30 ?_
          refine v_iload (pc := 33) C 5 rfl dL_delay_33 ?_
          refine v_aload_n (pc := 35) C 3 rfl rfl dL_delay_35 ?_
          refine v_iconst (pc := 36) C dL_delay_36 ?_
          refine al_14 (pc := 37) C ⟨by (first | assumption | omega | (unfold rg; omega)), by (first | assumption | omega | (unfold rg; omega))⟩ dL_delay_37 (g 14 0 0 1) (rfl) ?_
          refine v_iadd (pc := 38) C dL_delay_38 ?_
          refine v_istore (pc := 39) C [(5, .int (iI (c + (g 14 0 0 1)))), (4, .int (iI (t + 1))), (0, .int (iI p)), (1, .int (iI w)), (2, .ref (adr L 14 0 0)), (3, .int (iI y))] (by decide) rfl dL_delay_39 ?_
          refine v_goto (pc := 41) C 22 (by decide) dL_delay_41 ?_
          refine v_lsub [2, 3, 4, 5, 1, 0] rfl ?_
          exact ih22 y (t + 1) (c + (g 14 0 0 1)) (by exact hy) (by omega) (by omega) (by omega) (by have e := cd1 (a := 2 * y - (c + g 14 0 0 1) + g 14 0 0 1 - 1) (b := g 14 0 0 1) (by omega); rw [show 2 * y - (c + g 14 0 0 1) + g 14 0 0 1 - 1 + g 14 0 0 1 = 2 * y - c + g 14 0 0 1 - 1 by omega] at e; omega) (by omega) (by omega)
    refine v_lsub [3, 4, 5, 2, 1, 0] rfl ?_
    exact lb22 _ ((g 14 0 0 0) - p) (g 14 0 0 2) 0 (by first | rw [if_pos (by omega)] | rw [if_neg (by omega)]) (by omega) (by omega) (by omega) (by rw [show ∀ a : Int, 2 * a - 0 + g 14 0 0 1 - 1 = 2 * a + g 14 0 0 1 - 1 from fun a => by omega]; omega) (by omega) (Nat.lt_succ_self _)
  · skip
    refine v_iload_n (pc := 4) C 0 rfl rfl dL_delay_4 ?_
    refine v_goto (pc := 5) C 13 (by decide) dL_delay_5 ?_
    refine v_istore_n (pc := 13) C [(3, .int (iI p)), (0, .int (iI p)), (1, .int (iI w)), (2, .ref (adr L 14 0 0))] rfl (by decide) rfl dL_delay_13 ?_
    refine v_aload_n (pc := 14) C 3 rfl rfl dL_delay_14 ?_
    refine v_iconst (pc := 15) C dL_delay_15 ?_
    refine al_14 (pc := 16) C ⟨by (first | assumption | omega | (unfold rg; omega)), by (first | assumption | omega | (unfold rg; omega))⟩ dL_delay_16 (g 14 0 0 2) (rfl) ?_
    refine v_istore (pc := 17) C [(4, .int (iI (g 14 0 0 2))), (3, .int (iI p)), (0, .int (iI p)), (1, .int (iI w)), (2, .ref (adr L 14 0 0))] (by decide) rfl dL_delay_17 ?_
    refine v_iconst (pc := 19) C dL_delay_19 ?_
    refine v_istore (pc := 20) C [(5, .int (iI 0)), (4, .int (iI (g 14 0 0 2))), (3, .int (iI p)), (0, .int (iI p)), (1, .int (iI w)), (2, .ref (adr L 14 0 0))] (by decide) rfl dL_delay_20 ?_
    have lb22 : ∀ (n9 : Nat) (y : Int) (t : Int) (c : Int), (y = (if w = 0 then p else g 14 0 0 0 - p)) → (0 ≤ y ∧ y ≤ 40) → (0 ≤ c ∧ c ≤ 2 * y + 8) → (c ≤ 2 * y + g 14 0 0 1 - 1) → (t + (2 * y - c + g 14 0 0 1 - 1) / g 14 0 0 1 = (2 * y + g 14 0 0 1 - 1) / g 14 0 0 1 + g 14 0 0 2) → (0 ≤ t) → (2 * y - c).toNat < n9 → V pp l ee { frames := 0, cells := 0, slots := 0, locals := 0 } ss mm ([.int (iI p), .int (iI w), .ref (adr L 14 0 0)]).toArray bel mth cx 6 L (HH L g) 0 0 (MQ bel (va_Qi (fun (r9 : Int32) (u9 : St) => r9 = iI (lDl g p w) ∧ u9 = g) (fun u t => HS L u t) (Af L)) ([.int (iI p), .int (iI w), .ref (adr L 14 0 0)]).toArray ss 0 0 (Af L)) 22 [(0, .int (iI p)), (1, .int (iI w)), (2, .ref (adr L 14 0 0)), (3, .int (iI y)), (4, .int (iI t)), (5, .int (iI c))] [] := by
      intro n9
      induction n9 with
      | zero => intro y t c hy hyy hc hcc ht htt hm9; exact absurd hm9 (Nat.not_lt_zero _)
      | succ n9 ih9 =>
        intro y t c hy hyy hc hcc ht htt hm9
        have hb1 : 0 ≤ (2 * y - c + g 14 0 0 1 - 1) / g 14 0 0 1 := Int.ediv_nonneg (by omega) (by omega)
        have hb2 : (2 * y + g 14 0 0 1 - 1) / g 14 0 0 1 ≤ 2 * y + g 14 0 0 1 - 1 := Int.ediv_le_self _ (by omega)
        have ih22 := ih9
        refine v_iload (pc := 22) C 5 rfl dL_delay_22 ?_
        refine v_iconst (pc := 24) C dL_delay_24 ?_
        refine v_iload_n (pc := 25) C 3 rfl rfl dL_delay_25 ?_
        refine v_imul (pc := 26) C dL_delay_26 ?_
        refine v_icmp_ge (pc := 27) C 44 ⟨by (first | assumption | omega | (unfold rg; omega)), by (first | assumption | omega | (unfold rg; omega))⟩ ⟨by (first | assumption | omega | (unfold rg; omega)), by (first | assumption | omega | (unfold rg; omega))⟩ (by decide) dL_delay_27 (fun h27 => ?_) (fun h27 => ?_)
        · skip
          have hz : (2 * y - c + g 14 0 0 1 - 1) / g 14 0 0 1 = 0 := Int.ediv_eq_zero_of_lt (by omega) (by omega)
          refine v_iload (pc := 44) C 4 rfl dL_delay_44 ?_
          refine v_if_ne (pc := 46) C 53 ⟨by (first | assumption | omega | (unfold rg; omega)), by (first | assumption | omega | (unfold rg; omega))⟩ (by decide) dL_delay_46 (fun h46 => ?_) (fun h46 => ?_)
          · skip
            refine v_iload (pc := 53) C 4 rfl dL_delay_53 ?_
            exact v_iret (pc := 55) C hr hlk (⟨congrArg iI (by unfold lDl dly; rw [← hy, Int.max_def]; split <;> omega), rfl⟩) dL_delay_55
          · skip
            refine v_iconst (pc := 49) C dL_delay_49 ?_
            refine v_goto (pc := 50) C 55 (by decide) dL_delay_50 ?_
            exact v_iret (pc := 55) C hr hlk (⟨congrArg iI (by unfold lDl dly; rw [← hy, Int.max_def]; split <;> omega), rfl⟩) dL_delay_55
        · skip
          refine v_iinc (pc := 30) C 4 [(4, .int (iI (t + 1))), (0, .int (iI p)), (1, .int (iI w)), (2, .ref (adr L 14 0 0)), (3, .int (iI y)), (5, .int (iI c))] rfl (by decide) rfl dL_delay_30 ?_
          refine v_iload (pc := 33) C 5 rfl dL_delay_33 ?_
          refine v_aload_n (pc := 35) C 3 rfl rfl dL_delay_35 ?_
          refine v_iconst (pc := 36) C dL_delay_36 ?_
          refine al_14 (pc := 37) C ⟨by (first | assumption | omega | (unfold rg; omega)), by (first | assumption | omega | (unfold rg; omega))⟩ dL_delay_37 (g 14 0 0 1) (rfl) ?_
          refine v_iadd (pc := 38) C dL_delay_38 ?_
          refine v_istore (pc := 39) C [(5, .int (iI (c + (g 14 0 0 1)))), (4, .int (iI (t + 1))), (0, .int (iI p)), (1, .int (iI w)), (2, .ref (adr L 14 0 0)), (3, .int (iI y))] (by decide) rfl dL_delay_39 ?_
          refine v_goto (pc := 41) C 22 (by decide) dL_delay_41 ?_
          refine v_lsub [2, 3, 4, 5, 1, 0] rfl ?_
          exact ih22 y (t + 1) (c + (g 14 0 0 1)) (by exact hy) (by omega) (by omega) (by omega) (by have e := cd1 (a := 2 * y - (c + g 14 0 0 1) + g 14 0 0 1 - 1) (b := g 14 0 0 1) (by omega); rw [show 2 * y - (c + g 14 0 0 1) + g 14 0 0 1 - 1 + g 14 0 0 1 = 2 * y - c + g 14 0 0 1 - 1 by omega] at e; omega) (by omega) (by omega)
    refine v_lsub [3, 4, 5, 2, 1, 0] rfl ?_
    exact lb22 _ p (g 14 0 0 2) 0 (by first | rw [if_pos (by omega)] | rw [if_neg (by omega)]) (by omega) (by omega) (by omega) (by rw [show ∀ a : Int, 2 * a - 0 + g 14 0 0 1 - 1 = 2 * a + g 14 0 0 1 - 1 from fun a => by omega]; omega) (by omega) (Nat.lt_succ_self _)
set_option maxHeartbeats 4000000 in
set_option maxRecDepth 100000 in
theorem ct_L_many (l : Launch) (L : Lay) (g : St) (p : Int) (heR : eR g) (hp : 0 ≤ p ∧ p < 4) : Met l yL_many (.code yL_many cL_many 5 (some .int) :: wsL_law) { frames := 0, cells := 0, slots := 0, locals := 0 } (va_Pc [.int (iI p), .ref (adr L 14 0 0), .ref (adr L 17 0 0)] (HS L g)) (va_Qi (fun (r9 : Int32) (u9 : St) => r9 = iI (lUw g p) ∧ u9 = g) (fun u t => HS L u t) (Af L)) 0 0 (Af L) := by
  refine ct_mk (by decide +kernel) (Nat.le_of_ble_eq_true rfl) ?_
  intro pp ee ss mm bel mth cx C hr hlk
  show V pp l ee { frames := 0, cells := 0, slots := 0, locals := 0 } ss mm ([.int (iI p), .ref (adr L 14 0 0), .ref (adr L 17 0 0)]).toArray bel mth cx 5 L (HH L g) 0 0 _ 0 [(0, .int (iI p)), (1, .ref (adr L 14 0 0)), (2, .ref (adr L 17 0 0))] []
  obtain ⟨qN, qE⟩ := id heR
  refine v_iconst (pc := 0) C dL_many_0 ?_
  refine v_istore_n (pc := 1) C [(3, .int (iI 0)), (0, .int (iI p)), (1, .ref (adr L 14 0 0)), (2, .ref (adr L 17 0 0))] rfl (by decide) rfl dL_many_1 ?_
  refine v_iconst (pc := 2) C dL_many_2 ?_
  refine v_istore (pc := 3) C [(4, .int (iI 0)), (3, .int (iI 0)), (0, .int (iI p)), (1, .ref (adr L 14 0 0)), (2, .ref (adr L 17 0 0))] (by decide) rfl dL_many_3 ?_
  have lb5 : ∀ (n9 : Nat) (i : Int) (c : Int), (0 ≤ i ∧ i ≤ g 14 0 0 9) → (c = cn (lOf g p) i.toNat) → (0 ≤ c ∧ c ≤ i) → (g 14 0 0 9 - i).toNat < n9 → V pp l ee { frames := 0, cells := 0, slots := 0, locals := 0 } ss mm ([.int (iI p), .ref (adr L 14 0 0), .ref (adr L 17 0 0)]).toArray bel mth cx 5 L (HH L g) 0 0 (MQ bel (va_Qi (fun (r9 : Int32) (u9 : St) => r9 = iI (lUw g p) ∧ u9 = g) (fun u t => HS L u t) (Af L)) ([.int (iI p), .ref (adr L 14 0 0), .ref (adr L 17 0 0)]).toArray ss 0 0 (Af L)) 5 [(0, .int (iI p)), (1, .ref (adr L 14 0 0)), (2, .ref (adr L 17 0 0)), (3, .int (iI c)), (4, .int (iI i))] [] := by
    intro n9
    induction n9 with
    | zero => intro i c hi hc hcc hm9; exact absurd hm9 (Nat.not_lt_zero _)
    | succ n9 ih9 =>
      intro i c hi hc hcc hm9
      have ih5 := ih9
      refine v_iload (pc := 5) C 4 rfl dL_many_5 ?_
      refine v_aload_n (pc := 7) C 1 rfl rfl dL_many_7 ?_
      refine v_bipush (pc := 8) C rfl dL_many_8 ?_
      refine al_14 (pc := 10) C ⟨by (first | assumption | omega | (unfold rg; omega)), by (first | assumption | omega | (unfold rg; omega))⟩ dL_many_10 (g 14 0 0 9) (rfl) ?_
      refine v_icmp_ge (pc := 11) C 42 ⟨by (first | assumption | omega | (unfold rg; omega)), by (first | assumption | omega | (unfold rg; omega))⟩ ⟨by (first | assumption | omega | (unfold rg; omega)), by (first | assumption | omega | (unfold rg; omega))⟩ (by decide) dL_many_11 (fun h11 => ?_) (fun h11 => ?_)
      · skip
        refine v_iload_n (pc := 42) C 3 rfl rfl dL_many_42 ?_
        exact v_iret (pc := 43) C hr hlk (⟨congrArg iI (by rw [hc, show i = g 14 0 0 9 by omega]), rfl⟩) dL_many_43
      · skip
        have he := qE i (by omega) (by omega)
        refine v_iload_n (pc := 14) C 3 rfl rfl dL_many_14 ?_
        refine v_aload_n (pc := 15) C 2 rfl rfl dL_many_15 ?_
        refine v_iload (pc := 16) C 4 rfl dL_many_16 ?_
        refine al_17 (pc := 18) C ⟨by (first | assumption | omega | (unfold rg; omega)), by (first | assumption | omega | (unfold rg; omega))⟩ dL_many_18 (g 17 0 0 i) (rfl) ?_
        refine v_bipush (pc := 19) C rfl dL_many_19 ?_
        refine v_idiv (pc := 21) C (⟨⟨by (first | assumption | omega | (unfold rg; omega)), by (first | assumption | omega | (unfold rg; omega))⟩, ⟨by (first | assumption | omega | (unfold rg; omega)), by (first | assumption | omega | (unfold rg; omega))⟩, by (first | assumption | omega | (unfold rg; omega)), by (first | assumption | omega | (unfold rg; omega))⟩) dL_many_21 ?_
        refine v_bipush (pc := 22) C rfl dL_many_22 ?_
        refine v_irem (pc := 24) C (⟨⟨by (first | assumption | omega | (unfold rg; omega)), by (first | assumption | omega | (unfold rg; omega))⟩, ⟨by (first | assumption | omega | (unfold rg; omega)), by (first | assumption | omega | (unfold rg; omega))⟩, by (first | assumption | omega | (unfold rg; omega)), by (first | assumption | omega | (unfold rg; omega))⟩) dL_many_24 ?_
        refine v_iload_n (pc := 25) C 0 rfl rfl dL_many_25 ?_
        refine v_icmp_ne (pc := 26) C 33 ⟨by (first | assumption | omega | (unfold rg; omega)), by (first | assumption | omega | (unfold rg; omega))⟩ ⟨by (first | assumption | omega | (unfold rg; omega)), by (first | assumption | omega | (unfold rg; omega))⟩ (by decide) dL_many_26 (fun h26 => ?_) (fun h26 => ?_)
        · skip
          refine v_iconst (pc := 33) C dL_many_33 ?_
          refine v_iadd (pc := 34) C dL_many_34 ?_
          refine v_istore_n (pc := 35) C [(3, .int (iI (c + 0))), (0, .int (iI p)), (1, .ref (adr L 14 0 0)), (2, .ref (adr L 17 0 0)), (4, .int (iI i))] rfl (by decide) rfl dL_many_35 ?_
          refine v_iinc (pc := 36) C 4 [(4, .int (iI (i + 1))), (3, .int (iI (c + 0))), (0, .int (iI p)), (1, .ref (adr L 14 0 0)), (2, .ref (adr L 17 0 0))] rfl (by decide) rfl dL_many_36 ?_
          refine v_goto (pc := 39) C 5 (by decide) dL_many_39 ?_
          refine v_lsub [2, 3, 4, 1, 0] rfl ?_
          exact ih5 (i + 1) (c + 0) (by omega) (by rw [cn_s hi.1, ← hc]; simp only [lOf, decide_eq_true_eq]; split <;> omega) (by omega) (by omega)
        · skip
          refine v_iconst (pc := 29) C dL_many_29 ?_
          refine v_goto (pc := 30) C 34 (by decide) dL_many_30 ?_
          refine v_iadd (pc := 34) C dL_many_34 ?_
          refine v_istore_n (pc := 35) C [(3, .int (iI (c + 1))), (0, .int (iI p)), (1, .ref (adr L 14 0 0)), (2, .ref (adr L 17 0 0)), (4, .int (iI i))] rfl (by decide) rfl dL_many_35 ?_
          refine v_iinc (pc := 36) C 4 [(4, .int (iI (i + 1))), (3, .int (iI (c + 1))), (0, .int (iI p)), (1, .ref (adr L 14 0 0)), (2, .ref (adr L 17 0 0))] rfl (by decide) rfl dL_many_36 ?_
          refine v_goto (pc := 39) C 5 (by decide) dL_many_39 ?_
          refine v_lsub [2, 3, 4, 1, 0] rfl ?_
          exact ih5 (i + 1) (c + 1) (by omega) (by rw [cn_s hi.1, ← hc]; simp only [lOf, decide_eq_true_eq]; split <;> omega) (by omega) (by omega)
  refine v_lsub [2, 3, 4, 1, 0] rfl ?_
  exact lb5 _ 0 0 (by omega) (by rfl) (by omega) (Nat.lt_succ_self _)
set_option maxHeartbeats 4000000 in
set_option maxRecDepth 100000 in
theorem ct_L_coming (l : Launch) (L : Lay) (g : St) (p t : Int) (heR : eR g) (hp : 0 ≤ p ∧ p ≤ 100) (ht : 0 ≤ t ∧ t ≤ 1000000) : Met l yL_coming (.code yL_coming cL_coming 7 (some .int) :: wsL_law) { frames := 0, cells := 0, slots := 0, locals := 0 } (va_Pc [.int (iI p), .int (iI t), .ref (adr L 14 0 0), .ref (adr L 16 0 0), .ref (adr L 17 0 0)] (HS L g)) (va_Qi (fun (r9 : Int32) (u9 : St) => r9 = iI (lCo g p t) ∧ u9 = g) (fun u t => HS L u t) (Af L)) 0 0 (Af L) := by
  refine ct_mk (by decide +kernel) (Nat.le_of_ble_eq_true rfl) ?_
  intro pp ee ss mm bel mth cx C hr hlk
  show V pp l ee { frames := 0, cells := 0, slots := 0, locals := 0 } ss mm ([.int (iI p), .int (iI t), .ref (adr L 14 0 0), .ref (adr L 16 0 0), .ref (adr L 17 0 0)]).toArray bel mth cx 7 L (HH L g) 0 0 _ 0 [(0, .int (iI p)), (1, .int (iI t)), (2, .ref (adr L 14 0 0)), (3, .ref (adr L 16 0 0)), (4, .ref (adr L 17 0 0))] []
  obtain ⟨qN, qE⟩ := id heR
  refine v_iconst (pc := 0) C dL_coming_0 ?_
  refine v_istore (pc := 1) C [(5, .int (iI 0)), (0, .int (iI p)), (1, .int (iI t)), (2, .ref (adr L 14 0 0)), (3, .ref (adr L 16 0 0)), (4, .ref (adr L 17 0 0))] (by decide) rfl dL_coming_1 ?_
  refine v_iconst (pc := 3) C dL_coming_3 ?_
  refine v_istore (pc := 4) C [(6, .int (iI 0)), (5, .int (iI 0)), (0, .int (iI p)), (1, .int (iI t)), (2, .ref (adr L 14 0 0)), (3, .ref (adr L 16 0 0)), (4, .ref (adr L 17 0 0))] (by decide) rfl dL_coming_4 ?_
  have lb6 : ∀ (n9 : Nat) (i : Int) (c : Int), (0 ≤ i ∧ i ≤ g 14 0 0 9) → (c = cn (lDu g p t) i.toNat) → (0 ≤ c ∧ c ≤ i) → (g 14 0 0 9 - i).toNat < n9 → V pp l ee { frames := 0, cells := 0, slots := 0, locals := 0 } ss mm ([.int (iI p), .int (iI t), .ref (adr L 14 0 0), .ref (adr L 16 0 0), .ref (adr L 17 0 0)]).toArray bel mth cx 7 L (HH L g) 0 0 (MQ bel (va_Qi (fun (r9 : Int32) (u9 : St) => r9 = iI (lCo g p t) ∧ u9 = g) (fun u t => HS L u t) (Af L)) ([.int (iI p), .int (iI t), .ref (adr L 14 0 0), .ref (adr L 16 0 0), .ref (adr L 17 0 0)]).toArray ss 0 0 (Af L)) 6 [(0, .int (iI p)), (1, .int (iI t)), (2, .ref (adr L 14 0 0)), (3, .ref (adr L 16 0 0)), (4, .ref (adr L 17 0 0)), (5, .int (iI c)), (6, .int (iI i))] [] := by
    intro n9
    induction n9 with
    | zero => intro i c hi hc hcc hm9; exact absurd hm9 (Nat.not_lt_zero _)
    | succ n9 ih9 =>
      intro i c hi hc hcc hm9
      have ih6 := ih9
      refine v_iload (pc := 6) C 6 rfl dL_coming_6 ?_
      refine v_aload_n (pc := 8) C 2 rfl rfl dL_coming_8 ?_
      refine v_bipush (pc := 9) C rfl dL_coming_9 ?_
      refine al_14 (pc := 11) C ⟨by (first | assumption | omega | (unfold rg; omega)), by (first | assumption | omega | (unfold rg; omega))⟩ dL_coming_11 (g 14 0 0 9) (rfl) ?_
      refine v_icmp_ge (pc := 12) C 53 ⟨by (first | assumption | omega | (unfold rg; omega)), by (first | assumption | omega | (unfold rg; omega))⟩ ⟨by (first | assumption | omega | (unfold rg; omega)), by (first | assumption | omega | (unfold rg; omega))⟩ (by decide) dL_coming_12 (fun h12 => ?_) (fun h12 => ?_)
      · skip
        refine v_iload (pc := 53) C 5 rfl dL_coming_53 ?_
        exact v_iret (pc := 55) C hr hlk (⟨congrArg iI (by rw [hc, show i = g 14 0 0 9 by omega]), rfl⟩) dL_coming_55
      · skip
        have he := qE i (by omega) (by omega)
        refine v_iload (pc := 15) C 5 rfl dL_coming_15 ?_
        refine v_aload (pc := 17) C 4 rfl dL_coming_17 ?_
        refine v_iload (pc := 19) C 6 rfl dL_coming_19 ?_
        refine al_17 (pc := 21) C ⟨by (first | assumption | omega | (unfold rg; omega)), by (first | assumption | omega | (unfold rg; omega))⟩ dL_coming_21 (g 17 0 0 i) (rfl) ?_
        refine v_bipush (pc := 22) C rfl dL_coming_22 ?_
        refine v_idiv (pc := 24) C (⟨⟨by (first | assumption | omega | (unfold rg; omega)), by (first | assumption | omega | (unfold rg; omega))⟩, ⟨by (first | assumption | omega | (unfold rg; omega)), by (first | assumption | omega | (unfold rg; omega))⟩, by (first | assumption | omega | (unfold rg; omega)), by (first | assumption | omega | (unfold rg; omega))⟩) dL_coming_24 ?_
        refine v_iload_n (pc := 25) C 0 rfl rfl dL_coming_25 ?_
        refine v_icmp_ne (pc := 26) C 43 ⟨by (first | assumption | omega | (unfold rg; omega)), by (first | assumption | omega | (unfold rg; omega))⟩ ⟨by (first | assumption | omega | (unfold rg; omega)), by (first | assumption | omega | (unfold rg; omega))⟩ (by decide) dL_coming_26 (fun h26 => ?_) (fun h26 => ?_)
        · skip
          refine v_iconst (pc := 43) C dL_coming_43 ?_
          refine v_iadd (pc := 44) C dL_coming_44 ?_
          refine v_istore (pc := 45) C [(5, .int (iI (c + 0))), (0, .int (iI p)), (1, .int (iI t)), (2, .ref (adr L 14 0 0)), (3, .ref (adr L 16 0 0)), (4, .ref (adr L 17 0 0)), (6, .int (iI i))] (by decide) rfl dL_coming_45 ?_
          refine v_iinc (pc := 47) C 6 [(6, .int (iI (i + 1))), (5, .int (iI (c + 0))), (0, .int (iI p)), (1, .int (iI t)), (2, .ref (adr L 14 0 0)), (3, .ref (adr L 16 0 0)), (4, .ref (adr L 17 0 0))] rfl (by decide) rfl dL_coming_47 ?_
          refine v_goto (pc := 50) C 6 (by decide) dL_coming_50 ?_
          refine v_lsub [2, 3, 4, 5, 6, 1, 0] rfl ?_
          exact ih6 (i + 1) (c + 0) (by omega) (by rw [cn_s hi.1, ← hc]; simp only [lDu, decide_eq_true_eq]; split <;> omega) (by omega) (by omega)
        · skip
          refine v_aload_n (pc := 29) C 3 rfl rfl dL_coming_29 ?_
          refine v_iload (pc := 30) C 6 rfl dL_coming_30 ?_
          refine al_16 (pc := 32) C ⟨by (first | assumption | omega | (unfold rg; omega)), by (first | assumption | omega | (unfold rg; omega))⟩ dL_coming_32 (g 16 0 0 i) (rfl) ?_
          refine v_iconst (pc := 33) C dL_coming_33 ?_
          refine v_idiv (pc := 34) C (⟨⟨by (first | assumption | omega | (unfold rg; omega)), by (first | assumption | omega | (unfold rg; omega))⟩, ⟨by (first | assumption | omega | (unfold rg; omega)), by (first | assumption | omega | (unfold rg; omega))⟩, by (first | assumption | omega | (unfold rg; omega)), by (first | assumption | omega | (unfold rg; omega))⟩) dL_coming_34 ?_
          refine v_iload_n (pc := 35) C 1 rfl rfl dL_coming_35 ?_
          refine v_icmp_ne (pc := 36) C 43 ⟨by (first | assumption | omega | (unfold rg; omega)), by (first | assumption | omega | (unfold rg; omega))⟩ ⟨by (first | assumption | omega | (unfold rg; omega)), by (first | assumption | omega | (unfold rg; omega))⟩ (by decide) dL_coming_36 (fun h36 => ?_) (fun h36 => ?_)
          · skip
            refine v_iconst (pc := 43) C dL_coming_43 ?_
            refine v_iadd (pc := 44) C dL_coming_44 ?_
            refine v_istore (pc := 45) C [(5, .int (iI (c + 0))), (0, .int (iI p)), (1, .int (iI t)), (2, .ref (adr L 14 0 0)), (3, .ref (adr L 16 0 0)), (4, .ref (adr L 17 0 0)), (6, .int (iI i))] (by decide) rfl dL_coming_45 ?_
            refine v_iinc (pc := 47) C 6 [(6, .int (iI (i + 1))), (5, .int (iI (c + 0))), (0, .int (iI p)), (1, .int (iI t)), (2, .ref (adr L 14 0 0)), (3, .ref (adr L 16 0 0)), (4, .ref (adr L 17 0 0))] rfl (by decide) rfl dL_coming_47 ?_
            refine v_goto (pc := 50) C 6 (by decide) dL_coming_50 ?_
            refine v_lsub [2, 3, 4, 5, 6, 1, 0] rfl ?_
            exact ih6 (i + 1) (c + 0) (by omega) (by rw [cn_s hi.1, ← hc]; simp only [lDu, decide_eq_true_eq]; split <;> omega) (by omega) (by omega)
          · skip
            refine v_iconst (pc := 39) C dL_coming_39 ?_
            refine v_goto (pc := 40) C 44 (by decide) dL_coming_40 ?_
            refine v_iadd (pc := 44) C dL_coming_44 ?_
            refine v_istore (pc := 45) C [(5, .int (iI (c + 1))), (0, .int (iI p)), (1, .int (iI t)), (2, .ref (adr L 14 0 0)), (3, .ref (adr L 16 0 0)), (4, .ref (adr L 17 0 0)), (6, .int (iI i))] (by decide) rfl dL_coming_45 ?_
            refine v_iinc (pc := 47) C 6 [(6, .int (iI (i + 1))), (5, .int (iI (c + 1))), (0, .int (iI p)), (1, .int (iI t)), (2, .ref (adr L 14 0 0)), (3, .ref (adr L 16 0 0)), (4, .ref (adr L 17 0 0))] rfl (by decide) rfl dL_coming_47 ?_
            refine v_goto (pc := 50) C 6 (by decide) dL_coming_50 ?_
            refine v_lsub [2, 3, 4, 5, 6, 1, 0] rfl ?_
            exact ih6 (i + 1) (c + 1) (by omega) (by rw [cn_s hi.1, ← hc]; simp only [lDu, decide_eq_true_eq]; split <;> omega) (by omega) (by omega)
  refine v_lsub [2, 3, 4, 5, 6, 1, 0] rfl ?_
  exact lb6 _ 0 0 (by omega) (by rfl) (by omega) (Nat.lt_succ_self _)
set_option maxHeartbeats 4000000 in
set_option maxRecDepth 100000 in
theorem ct_L_moves (l : Launch) (L : Lay) (g : St) (n : Int) (hn : 0 ≤ n ∧ n ≤ 100000) (hS0 : 8 ≤ g 14 0 0 0 ∧ g 14 0 0 0 ≤ 40) (hB0 : 0 ≤ g 14 0 0 4 ∧ g 14 0 0 4 ≤ g 14 0 0 0) (hB2 : g 14 0 0 6 = 1 ∨ g 14 0 0 6 = -1) : Met l yL_moves (.code yL_moves cL_moves 4 none :: wsL_law) { frames := 0, cells := 0, slots := 0, locals := 0 } (va_Pc [.int (iI n), .ref (adr L 14 0 0)] (HS L g)) (va_Qv (fun (u9 : St) => u9 = (lmG g n.toNat)) (fun u t => HS L u t) (Af L)) 0 0 (Af L) := by
  refine ct_mk (by decide +kernel) (Nat.le_of_ble_eq_true rfl) ?_
  intro pp ee ss mm bel mth cx C hr hlk
  show V pp l ee { frames := 0, cells := 0, slots := 0, locals := 0 } ss mm ([.int (iI n), .ref (adr L 14 0 0)]).toArray bel mth cx 4 L (HH L g) 0 0 _ 0 [(0, .int (iI n)), (1, .ref (adr L 14 0 0))] []
  refine v_iconst (pc := 0) C dL_moves_0 ?_
  refine v_istore_n (pc := 1) C [(2, .int (iI 0)), (0, .int (iI n)), (1, .ref (adr L 14 0 0))] rfl (by decide) rfl dL_moves_1 ?_
  have lb2 : ∀ (n9 : Nat) (i : Int), (0 ≤ i ∧ i ≤ n) → (n - i).toNat < n9 → V pp l ee { frames := 0, cells := 0, slots := 0, locals := 0 } ss mm ([.int (iI n), .ref (adr L 14 0 0)]).toArray bel mth cx 4 L (HH L (lmG g i.toNat)) 0 0 (MQ bel (va_Qv (fun (u9 : St) => u9 = (lmG g n.toNat)) (fun u t => HS L u t) (Af L)) ([.int (iI n), .ref (adr L 14 0 0)]).toArray ss 0 0 (Af L)) 2 [(0, .int (iI n)), (1, .ref (adr L 14 0 0)), (2, .int (iI i))] [] := by
    intro n9
    induction n9 with
    | zero => intro i hi hm9; exact absurd hm9 (Nat.not_lt_zero _)
    | succ n9 ih9 =>
      intro i hi hm9
      obtain ⟨hq1, hq2⟩ := bwalk_in (last := g 14 0 0 0) (by omega) (q := (g 14 0 0 4, (g 14 0 0 6 + 1) / 2)) hB0 (show (g 14 0 0 6 + 1) / 2 = 0 ∨ (g 14 0 0 6 + 1) / 2 = 1 by omega) i.toNat
      have ih2 := ih9
      refine v_iload_n (pc := 2) C 2 rfl rfl dL_moves_2 ?_
      refine v_iload_n (pc := 3) C 0 rfl rfl dL_moves_3 ?_
      refine v_icmp_ge (pc := 4) C 59 ⟨by (first | assumption | omega | (unfold rg; omega)), by (first | assumption | omega | (unfold rg; omega))⟩ ⟨by (first | assumption | omega | (unfold rg; omega)), by (first | assumption | omega | (unfold rg; omega))⟩ (by decide) dL_moves_4 (fun h4 => ?_) (fun h4 => ?_)
      · skip
        exact v_vret (pc := 59) C hr hlk (by rw [show i = n by omega]) dL_moves_59
      · skip
        refine v_aload_n (pc := 7) C 1 rfl rfl dL_moves_7 ?_
        refine v_iconst (pc := 8) C dL_moves_8 ?_
        refine al_14 (pc := 9) C ⟨by (first | assumption | omega | (unfold rg; omega)), by (first | assumption | omega | (unfold rg; omega))⟩ dL_moves_9 ((bwalk (g 14 0 0 0) i.toNat (g 14 0 0 4, (g 14 0 0 6 + 1) / 2)).1) (by simp [lmG, up]) ?_
        refine v_aload_n (pc := 10) C 1 rfl rfl dL_moves_10 ?_
        refine v_bipush (pc := 11) C rfl dL_moves_11 ?_
        refine al_14 (pc := 13) C ⟨by (first | assumption | omega | (unfold rg; omega)), by (first | assumption | omega | (unfold rg; omega))⟩ dL_moves_13 (2 * (bwalk (g 14 0 0 0) i.toNat (g 14 0 0 4, (g 14 0 0 6 + 1) / 2)).2 - 1) (by simp [lmG, up]) ?_
        refine v_iadd (pc := 14) C dL_moves_14 ?_
        refine v_istore_n (pc := 15) C [(3, .int (iI (((bwalk (g 14 0 0 0) i.toNat (g 14 0 0 4, (g 14 0 0 6 + 1) / 2)).1) + (2 * (bwalk (g 14 0 0 0) i.toNat (g 14 0 0 4, (g 14 0 0 6 + 1) / 2)).2 - 1)))), (0, .int (iI n)), (1, .ref (adr L 14 0 0)), (2, .int (iI i))] rfl (by decide) rfl dL_moves_15 ?_
        refine v_aload_n (pc := 16) C 2 rfl rfl dL_moves_16 ?_
        refine v_bipush (pc := 17) C rfl dL_moves_17 ?_
        refine v_iload_n (pc := 19) C 0 rfl rfl dL_moves_19 ?_
        refine v_if_lt (pc := 20) C 30 ⟨by (first | assumption | omega | (unfold rg; omega)), by (first | assumption | omega | (unfold rg; omega))⟩ (by decide) dL_moves_20 (fun h20 => ?_) (fun h20 => ?_)
        · skip
          refine v_aload_n (pc := 30) C 2 rfl rfl dL_moves_30 ?_
          refine v_bipush (pc := 31) C rfl dL_moves_31 ?_
          refine al_14 (pc := 33) C ⟨by (first | assumption | omega | (unfold rg; omega)), by (first | assumption | omega | (unfold rg; omega))⟩ dL_moves_33 (2 * (bwalk (g 14 0 0 0) i.toNat (g 14 0 0 4, (g 14 0 0 6 + 1) / 2)).2 - 1) (by simp [lmG, up]) ?_
          refine v_ineg (pc := 34) C dL_moves_34 ?_
          refine v_goto (pc := 35) C 42 (by decide) dL_moves_35 ?_
          refine as_14 (pc := 42) C ⟨by (first | assumption | omega | (unfold rg; omega)), by (first | assumption | omega | (unfold rg; omega))⟩ dL_moves_42 ?_
          refine v_aload_n (pc := 43) C 2 rfl rfl dL_moves_43 ?_
          refine v_iconst (pc := 44) C dL_moves_44 ?_
          refine v_dup2 (pc := 45) C rfl rfl dL_moves_45 ?_
          refine al_14 (pc := 46) C ⟨by (first | assumption | omega | (unfold rg; omega)), by (first | assumption | omega | (unfold rg; omega))⟩ dL_moves_46 ((bwalk (g 14 0 0 0) i.toNat (g 14 0 0 4, (g 14 0 0 6 + 1) / 2)).1) (by simp [lmG, up]) ?_
          refine v_aload_n (pc := 47) C 2 rfl rfl dL_moves_47 ?_
          refine v_bipush (pc := 48) C rfl dL_moves_48 ?_
          refine al_14 (pc := 50) C ⟨by (first | assumption | omega | (unfold rg; omega)), by (first | assumption | omega | (unfold rg; omega))⟩ dL_moves_50 (-(2 * (bwalk (g 14 0 0 0) i.toNat (g 14 0 0 4, (g 14 0 0 6 + 1) / 2)).2 - 1)) (by simp [up]) ?_
          refine v_iadd (pc := 51) C dL_moves_51 ?_
          refine as_14 (pc := 52) C ⟨by (first | assumption | omega | (unfold rg; omega)), by (first | assumption | omega | (unfold rg; omega))⟩ dL_moves_52 ?_
          refine v_iinc (pc := 53) C 3 [(2, .int (iI (i + 1))), (3, .int (iI (((bwalk (g 14 0 0 0) i.toNat (g 14 0 0 4, (g 14 0 0 6 + 1) / 2)).1) + (2 * (bwalk (g 14 0 0 0) i.toNat (g 14 0 0 4, (g 14 0 0 6 + 1) / 2)).2 - 1)))), (0, .int (iI n)), (1, .ref (adr L 14 0 0))] rfl (by decide) rfl dL_moves_53 ?_
          refine v_goto (pc := 56) C 2 (by decide) dL_moves_56 ?_
          refine v_lsub [2, 3, 0] rfl ?_
          refine v_st (g2 := lmG g (i + 1).toNat) C (by rw [show (i + 1).toNat = i.toNat + 1 by omega]; exact lm_s g i.toNat (by unfold stepR; (repeat' split) <;> omega) (by unfold stepP stepR; (repeat' split) <;> omega)) ?_
          exact ih2 (i + 1) (by omega) (by omega)
        · skip
          refine v_iload_n (pc := 23) C 0 rfl rfl dL_moves_23 ?_
          refine v_aload_n (pc := 24) C 2 rfl rfl dL_moves_24 ?_
          refine v_iconst (pc := 25) C dL_moves_25 ?_
          refine al_14 (pc := 26) C ⟨by (first | assumption | omega | (unfold rg; omega)), by (first | assumption | omega | (unfold rg; omega))⟩ dL_moves_26 (g 14 0 0 0) (by simp [lmG, up]) ?_
          refine v_icmp_le (pc := 27) C 38 ⟨by (first | assumption | omega | (unfold rg; omega)), by (first | assumption | omega | (unfold rg; omega))⟩ ⟨by (first | assumption | omega | (unfold rg; omega)), by (first | assumption | omega | (unfold rg; omega))⟩ (by decide) dL_moves_27 (fun h27 => ?_) (fun h27 => ?_)
          · skip
            refine v_aload_n (pc := 38) C 2 rfl rfl dL_moves_38 ?_
            refine v_bipush (pc := 39) C rfl dL_moves_39 ?_
            refine al_14 (pc := 41) C ⟨by (first | assumption | omega | (unfold rg; omega)), by (first | assumption | omega | (unfold rg; omega))⟩ dL_moves_41 (2 * (bwalk (g 14 0 0 0) i.toNat (g 14 0 0 4, (g 14 0 0 6 + 1) / 2)).2 - 1) (by simp [lmG, up]) ?_
            refine as_14 (pc := 42) C ⟨by (first | assumption | omega | (unfold rg; omega)), by (first | assumption | omega | (unfold rg; omega))⟩ dL_moves_42 ?_
            refine v_aload_n (pc := 43) C 2 rfl rfl dL_moves_43 ?_
            refine v_iconst (pc := 44) C dL_moves_44 ?_
            refine v_dup2 (pc := 45) C rfl rfl dL_moves_45 ?_
            refine al_14 (pc := 46) C ⟨by (first | assumption | omega | (unfold rg; omega)), by (first | assumption | omega | (unfold rg; omega))⟩ dL_moves_46 ((bwalk (g 14 0 0 0) i.toNat (g 14 0 0 4, (g 14 0 0 6 + 1) / 2)).1) (by simp [lmG, up]) ?_
            refine v_aload_n (pc := 47) C 2 rfl rfl dL_moves_47 ?_
            refine v_bipush (pc := 48) C rfl dL_moves_48 ?_
            refine al_14 (pc := 50) C ⟨by (first | assumption | omega | (unfold rg; omega)), by (first | assumption | omega | (unfold rg; omega))⟩ dL_moves_50 (2 * (bwalk (g 14 0 0 0) i.toNat (g 14 0 0 4, (g 14 0 0 6 + 1) / 2)).2 - 1) (by simp [up]) ?_
            refine v_iadd (pc := 51) C dL_moves_51 ?_
            refine as_14 (pc := 52) C ⟨by (first | assumption | omega | (unfold rg; omega)), by (first | assumption | omega | (unfold rg; omega))⟩ dL_moves_52 ?_
            refine v_iinc (pc := 53) C 3 [(2, .int (iI (i + 1))), (3, .int (iI (((bwalk (g 14 0 0 0) i.toNat (g 14 0 0 4, (g 14 0 0 6 + 1) / 2)).1) + (2 * (bwalk (g 14 0 0 0) i.toNat (g 14 0 0 4, (g 14 0 0 6 + 1) / 2)).2 - 1)))), (0, .int (iI n)), (1, .ref (adr L 14 0 0))] rfl (by decide) rfl dL_moves_53 ?_
            refine v_goto (pc := 56) C 2 (by decide) dL_moves_56 ?_
            refine v_lsub [2, 3, 0] rfl ?_
            refine v_st (g2 := lmG g (i + 1).toNat) C (by rw [show (i + 1).toNat = i.toNat + 1 by omega]; exact lm_s g i.toNat (by unfold stepR; (repeat' split) <;> omega) (by unfold stepP stepR; (repeat' split) <;> omega)) ?_
            exact ih2 (i + 1) (by omega) (by omega)
          · skip
            refine v_aload_n (pc := 30) C 2 rfl rfl dL_moves_30 ?_
            refine v_bipush (pc := 31) C rfl dL_moves_31 ?_
            refine al_14 (pc := 33) C ⟨by (first | assumption | omega | (unfold rg; omega)), by (first | assumption | omega | (unfold rg; omega))⟩ dL_moves_33 (2 * (bwalk (g 14 0 0 0) i.toNat (g 14 0 0 4, (g 14 0 0 6 + 1) / 2)).2 - 1) (by simp [lmG, up]) ?_
            refine v_ineg (pc := 34) C dL_moves_34 ?_
            refine v_goto (pc := 35) C 42 (by decide) dL_moves_35 ?_
            refine as_14 (pc := 42) C ⟨by (first | assumption | omega | (unfold rg; omega)), by (first | assumption | omega | (unfold rg; omega))⟩ dL_moves_42 ?_
            refine v_aload_n (pc := 43) C 2 rfl rfl dL_moves_43 ?_
            refine v_iconst (pc := 44) C dL_moves_44 ?_
            refine v_dup2 (pc := 45) C rfl rfl dL_moves_45 ?_
            refine al_14 (pc := 46) C ⟨by (first | assumption | omega | (unfold rg; omega)), by (first | assumption | omega | (unfold rg; omega))⟩ dL_moves_46 ((bwalk (g 14 0 0 0) i.toNat (g 14 0 0 4, (g 14 0 0 6 + 1) / 2)).1) (by simp [lmG, up]) ?_
            refine v_aload_n (pc := 47) C 2 rfl rfl dL_moves_47 ?_
            refine v_bipush (pc := 48) C rfl dL_moves_48 ?_
            refine al_14 (pc := 50) C ⟨by (first | assumption | omega | (unfold rg; omega)), by (first | assumption | omega | (unfold rg; omega))⟩ dL_moves_50 (-(2 * (bwalk (g 14 0 0 0) i.toNat (g 14 0 0 4, (g 14 0 0 6 + 1) / 2)).2 - 1)) (by simp [up]) ?_
            refine v_iadd (pc := 51) C dL_moves_51 ?_
            refine as_14 (pc := 52) C ⟨by (first | assumption | omega | (unfold rg; omega)), by (first | assumption | omega | (unfold rg; omega))⟩ dL_moves_52 ?_
            refine v_iinc (pc := 53) C 3 [(2, .int (iI (i + 1))), (3, .int (iI (((bwalk (g 14 0 0 0) i.toNat (g 14 0 0 4, (g 14 0 0 6 + 1) / 2)).1) + (2 * (bwalk (g 14 0 0 0) i.toNat (g 14 0 0 4, (g 14 0 0 6 + 1) / 2)).2 - 1)))), (0, .int (iI n)), (1, .ref (adr L 14 0 0))] rfl (by decide) rfl dL_moves_53 ?_
            refine v_goto (pc := 56) C 2 (by decide) dL_moves_56 ?_
            refine v_lsub [2, 3, 0] rfl ?_
            refine v_st (g2 := lmG g (i + 1).toNat) C (by rw [show (i + 1).toNat = i.toNat + 1 by omega]; exact lm_s g i.toNat (by unfold stepR; (repeat' split) <;> omega) (by unfold stepP stepR; (repeat' split) <;> omega)) ?_
            exact ih2 (i + 1) (by omega) (by omega)
  refine v_lsub [1, 2, 0] rfl ?_
  refine v_st (g2 := lmG g (0 : Int).toNat) C (by exact (lm_0 hB2).symm) ?_
  exact lb2 _ 0 (by omega) (Nat.lt_succ_self _)
set_option maxHeartbeats 4000000 in
set_option maxRecDepth 100000 in
theorem ct_L_calls (l : Launch) (L : Lay) (g : St) (p w : Int) (hq : wq g 1) (hp : 0 ≤ p ∧ p < 4) (hw9 : 0 ≤ w ∧ w ≤ 9) (hn : lUw g p ≤ 4 → g 14 0 0 9 + 2 ≤ 24) : Met l yL_calls (.code yL_calls cL_calls 9 (some .int) :: wsL_law) { frames := 1, cells := 0, slots := 0, locals := 25 } (va_Pc [.int (iI p), .int (iI w), .ref (adr L 14 0 0), .ref (adr L 15 0 0), .ref (adr L 16 0 0), .ref (adr L 17 0 0)] (HS L g)) (va_Qi (fun (r9 : Int32) (u9 : St) => r9 = iI (lcR g p) ∧ u9 = (lcG g p w)) (fun u t => HS L u t) (Af L)) 0 0 (Af L) := by
  refine ct_mk (by decide +kernel) (Nat.le_of_ble_eq_true rfl) ?_
  intro pp ee ss mm bel mth cx C hr hlk
  show V pp l ee { frames := 1, cells := 0, slots := 0, locals := 25 } ss mm ([.int (iI p), .int (iI w), .ref (adr L 14 0 0), .ref (adr L 15 0 0), .ref (adr L 16 0 0), .ref (adr L 17 0 0)]).toArray bel mth cx 9 L (HH L g) 0 0 _ 0 [(0, .int (iI p)), (1, .int (iI w)), (2, .ref (adr L 14 0 0)), (3, .ref (adr L 15 0 0)), (4, .ref (adr L 16 0 0)), (5, .ref (adr L 17 0 0))] []
  obtain ⟨qS0, qS1, qS2, qB0, qB1, qCl, qN, qPl, qEc⟩ := wq_s hq
  have hc9 := lUw_in g p
  obtain ⟨-, -, qP, q7, q8⟩ := id hq
  have hpl := qPl p hp.1 hp.2
  have hp2 := qP (6 * p + 2) (by omega) (by omega)
  refine v_iload_n (pc := 0) C 0 rfl rfl dL_calls_0 ?_
  refine v_aload_n (pc := 1) C 2 rfl rfl dL_calls_1 ?_
  refine v_aload (pc := 2) C 5 rfl dL_calls_2 ?_
  refine v_calliS (pc := 4) C cw_RL_61 (ct_L_many l L g p (by exact wq_eR hq (by decide)) (by first | assumption | omega | (unfold rg; omega))) ⟨Nat.le_of_ble_eq_true rfl, Nat.le_of_ble_eq_true rfl⟩ rfl (Nat.le_of_ble_eq_true rfl) ⟨Nat.le_of_ble_eq_true rfl, Nat.le_of_ble_eq_true rfl⟩ rfl dL_calls_4 (fun r9 u9 hP_1 => ?_)
  obtain ⟨hP_1, hP_1b⟩ := hP_1
  rw [hP_1, hP_1b]
  clear hP_1 hP_1b r9 u9
  refine v_iconst (pc := 7) C dL_calls_7 ?_
  refine v_icmp_le (pc := 8) C 21 ⟨by (first | assumption | omega | (unfold rg; omega)), by (first | assumption | omega | (unfold rg; omega))⟩ ⟨by (first | assumption | omega | (unfold rg; omega)), by (first | assumption | omega | (unfold rg; omega))⟩ (by decide) dL_calls_8 (fun h8 => ?_) (fun h8 => ?_)
  · skip
    have hn2 := hn (by omega)
    have hd0 : 1 ≤ lDl g (g 15 0 0 (6 * p)) 0 ∧ lDl g (g 15 0 0 (6 * p)) 0 ≤ 100 := dly_in (by omega) qS1 qS2 hpl
    have hd1 : 1 ≤ lDl g (g 15 0 0 (6 * p)) 1 ∧ lDl g (g 15 0 0 (6 * p)) 1 ≤ 100 := dly_in (by omega) qS1 qS2 hpl
    refine v_aload_n (pc := 21) C 3 rfl rfl dL_calls_21 ?_
    refine v_bipush (pc := 22) C rfl dL_calls_22 ?_
    refine v_iload_n (pc := 24) C 0 rfl rfl dL_calls_24 ?_
    refine v_imul (pc := 25) C dL_calls_25 ?_
    refine al_15 (pc := 26) C ⟨by (first | assumption | omega | (unfold rg; omega)), by (first | assumption | omega | (unfold rg; omega))⟩ dL_calls_26 (g 15 0 0 (6 * p)) (rfl) ?_
    refine v_istore (pc := 27) C [(6, .int (iI (g 15 0 0 (6 * p)))), (0, .int (iI p)), (1, .int (iI w)), (2, .ref (adr L 14 0 0)), (3, .ref (adr L 15 0 0)), (4, .ref (adr L 16 0 0)), (5, .ref (adr L 17 0 0))] (by decide) rfl dL_calls_27 ?_
    refine v_iconst (pc := 29) C dL_calls_29 ?_
    refine v_istore (pc := 30) C [(7, .int (iI 0)), (6, .int (iI (g 15 0 0 (6 * p)))), (0, .int (iI p)), (1, .int (iI w)), (2, .ref (adr L 14 0 0)), (3, .ref (adr L 15 0 0)), (4, .ref (adr L 16 0 0)), (5, .ref (adr L 17 0 0))] (by decide) rfl dL_calls_30 ?_
    refine v_iload (pc := 32) C 0 rfl dL_calls_32 ?_
    refine v_iconst (pc := 34) C dL_calls_34 ?_
    refine v_icmp_ge (pc := 35) C 95 ⟨by (first | assumption | omega | (unfold rg; omega)), by (first | assumption | omega | (unfold rg; omega))⟩ ⟨by (first | assumption | omega | (unfold rg; omega)), by (first | assumption | omega | (unfold rg; omega))⟩ (by decide) dL_calls_35 (fun h35 => ?_) (fun h35 => ?_)
    · skip
      exfalso; omega
    · skip
      refine v_aload (pc := 38) C 6 rfl dL_calls_38 ?_
      refine v_aload_n (pc := 40) C 4 rfl rfl dL_calls_40 ?_
      refine v_bipush (pc := 41) C rfl dL_calls_41 ?_
      refine al_14 (pc := 43) C ⟨by (first | assumption | omega | (unfold rg; omega)), by (first | assumption | omega | (unfold rg; omega))⟩ dL_calls_43 (g 14 0 0 9) (rfl) ?_
      refine v_iconst (pc := 44) C dL_calls_44 ?_
      refine v_aload_n (pc := 45) C 4 rfl rfl dL_calls_45 ?_
      refine v_iconst (pc := 46) C dL_calls_46 ?_
      refine al_14 (pc := 47) C ⟨by (first | assumption | omega | (unfold rg; omega)), by (first | assumption | omega | (unfold rg; omega))⟩ dL_calls_47 (g 14 0 0 3) (rfl) ?_
      refine v_iload (pc := 48) C 1 rfl dL_calls_48 ?_
      refine v_iload (pc := 50) C 0 rfl dL_calls_50 ?_
      refine v_aload_n (pc := 52) C 4 rfl rfl dL_calls_52 ?_
      refine v_calliS (pc := 53) C cw_RL_67 (ct_L_delay l L g (g 15 0 0 (6 * p)) 0 (by first | assumption | omega | (simp only [up]; grind)) (by first | assumption | omega | (simp only [up]; grind)) (by first | assumption | omega | (simp only [up]; grind)) (by first | assumption | omega | (simp only [up]; grind)) (by first | assumption | omega | (unfold rg; omega))) ⟨Nat.le_of_ble_eq_true rfl, Nat.le_of_ble_eq_true rfl⟩ rfl (Nat.le_of_ble_eq_true rfl) ⟨Nat.le_of_ble_eq_true rfl, Nat.le_of_ble_eq_true rfl⟩ rfl dL_calls_53 (fun r9 u9 hP_2 => ?_)
      obtain ⟨hP_2, hP_2b⟩ := hP_2
      rw [hP_2, hP_2b]
      clear hP_2 hP_2b r9 u9
      refine v_iadd (pc := 56) C dL_calls_56 ?_
      refine v_imul (pc := 57) C dL_calls_57 ?_
      refine v_iload (pc := 58) C 0 rfl dL_calls_58 ?_
      refine v_iadd (pc := 60) C dL_calls_60 ?_
      refine as_16 (pc := 61) C ⟨by (first | assumption | omega | (unfold rg; omega)), by (first | assumption | omega | (unfold rg; omega))⟩ dL_calls_61 ?_
      refine v_aload (pc := 62) C 7 rfl dL_calls_62 ?_
      refine v_aload_n (pc := 64) C 4 rfl rfl dL_calls_64 ?_
      refine v_bipush (pc := 65) C rfl dL_calls_65 ?_
      refine al_14 (pc := 67) C ⟨by (first | assumption | omega | (unfold rg; omega)), by (first | assumption | omega | (unfold rg; omega))⟩ dL_calls_67 (g 14 0 0 9) (by simp [up]) ?_
      refine v_bipush (pc := 68) C rfl dL_calls_68 ?_
      refine v_iload (pc := 70) C 1 rfl dL_calls_70 ?_
      refine v_imul (pc := 72) C dL_calls_72 ?_
      refine v_bipush (pc := 73) C rfl dL_calls_73 ?_
      refine v_iload_n (pc := 75) C 2 rfl rfl dL_calls_75 ?_
      refine v_imul (pc := 76) C dL_calls_76 ?_
      refine v_iadd (pc := 77) C dL_calls_77 ?_
      refine v_iload_n (pc := 78) C 3 rfl rfl dL_calls_78 ?_
      refine v_iadd (pc := 79) C dL_calls_79 ?_
      refine as_17 (pc := 80) C ⟨by (first | assumption | omega | (unfold rg; omega)), by (first | assumption | omega | (unfold rg; omega))⟩ dL_calls_80 ?_
      refine v_aload_n (pc := 81) C 4 rfl rfl dL_calls_81 ?_
      refine v_bipush (pc := 82) C rfl dL_calls_82 ?_
      refine v_dup2 (pc := 84) C rfl rfl dL_calls_84 ?_
      refine al_14 (pc := 85) C ⟨by (first | assumption | omega | (unfold rg; omega)), by (first | assumption | omega | (unfold rg; omega))⟩ dL_calls_85 (g 14 0 0 9) (by simp [up]) ?_
      refine v_iconst (pc := 86) C dL_calls_86 ?_
      refine v_iadd (pc := 87) C dL_calls_87 ?_
      refine as_14 (pc := 88) C ⟨by (first | assumption | omega | (unfold rg; omega)), by (first | assumption | omega | (unfold rg; omega))⟩ dL_calls_88 ?_
      refine v_iinc (pc := 89) C 0 [(7, .int (iI 1)), (6, .int (iI (g 15 0 0 (6 * p)))), (0, .int (iI p)), (1, .int (iI w)), (2, .ref (adr L 14 0 0)), (3, .ref (adr L 15 0 0)), (4, .ref (adr L 16 0 0)), (5, .ref (adr L 17 0 0))] rfl (by decide) rfl dL_calls_89 ?_
      refine v_goto (pc := 92) C 32 (by decide) dL_calls_92 ?_
      refine v_iload (pc := 32) C 0 rfl dL_calls_32 ?_
      refine v_iconst (pc := 34) C dL_calls_34 ?_
      refine v_icmp_ge (pc := 35) C 95 ⟨by (first | assumption | omega | (unfold rg; omega)), by (first | assumption | omega | (unfold rg; omega))⟩ ⟨by (first | assumption | omega | (unfold rg; omega)), by (first | assumption | omega | (unfold rg; omega))⟩ (by decide) dL_calls_35 (fun h35 => ?_) (fun h35 => ?_)
      · skip
        exfalso; omega
      · skip
        refine v_aload (pc := 38) C 6 rfl dL_calls_38 ?_
        refine v_aload_n (pc := 40) C 4 rfl rfl dL_calls_40 ?_
        refine v_bipush (pc := 41) C rfl dL_calls_41 ?_
        refine al_14 (pc := 43) C ⟨by (first | assumption | omega | (unfold rg; omega)), by (first | assumption | omega | (unfold rg; omega))⟩ dL_calls_43 ((g 14 0 0 9) + 1) (by simp [up]) ?_
        refine v_iconst (pc := 44) C dL_calls_44 ?_
        refine v_aload_n (pc := 45) C 4 rfl rfl dL_calls_45 ?_
        refine v_iconst (pc := 46) C dL_calls_46 ?_
        refine al_14 (pc := 47) C ⟨by (first | assumption | omega | (unfold rg; omega)), by (first | assumption | omega | (unfold rg; omega))⟩ dL_calls_47 (g 14 0 0 3) (by simp [up]) ?_
        refine v_iload (pc := 48) C 1 rfl dL_calls_48 ?_
        refine v_iload (pc := 50) C 0 rfl dL_calls_50 ?_
        refine v_aload_n (pc := 52) C 4 rfl rfl dL_calls_52 ?_
        refine v_calliS (pc := 53) C cw_RL_67 (ct_L_delay l L (up (up (up g 16 0 0 (g 14 0 0 9) ((2 * ((g 14 0 0 3) + (lDl g (g 15 0 0 (6 * p)) 0))) + 0)) 17 0 0 (g 14 0 0 9) (((100 * (g 15 0 0 (6 * p))) + (10 * p)) + w)) 14 0 0 9 ((g 14 0 0 9) + 1)) (g 15 0 0 (6 * p)) 1 (by first | assumption | omega | (simp only [up]; grind)) (by first | assumption | omega | (simp only [up]; grind)) (by first | assumption | omega | (simp only [up]; grind)) (by first | assumption | omega | (simp only [up]; grind)) (by first | assumption | omega | (unfold rg; omega))) ⟨Nat.le_of_ble_eq_true rfl, Nat.le_of_ble_eq_true rfl⟩ rfl (Nat.le_of_ble_eq_true rfl) ⟨Nat.le_of_ble_eq_true rfl, Nat.le_of_ble_eq_true rfl⟩ rfl dL_calls_53 (fun r9 u9 hP_3 => ?_)
        obtain ⟨hP_3, hP_3b⟩ := hP_3
        rw [hP_3, hP_3b]
        clear hP_3 hP_3b r9 u9
        refine v_topi (b := lDl g (g 15 0 0 (6 * p)) 1) C (by unfold lDl; simp only [up]; grind) ?_
        refine v_iadd (pc := 56) C dL_calls_56 ?_
        refine v_imul (pc := 57) C dL_calls_57 ?_
        refine v_iload (pc := 58) C 0 rfl dL_calls_58 ?_
        refine v_iadd (pc := 60) C dL_calls_60 ?_
        refine as_16 (pc := 61) C ⟨by (first | assumption | omega | (unfold rg; omega)), by (first | assumption | omega | (unfold rg; omega))⟩ dL_calls_61 ?_
        refine v_aload (pc := 62) C 7 rfl dL_calls_62 ?_
        refine v_aload_n (pc := 64) C 4 rfl rfl dL_calls_64 ?_
        refine v_bipush (pc := 65) C rfl dL_calls_65 ?_
        refine al_14 (pc := 67) C ⟨by (first | assumption | omega | (unfold rg; omega)), by (first | assumption | omega | (unfold rg; omega))⟩ dL_calls_67 ((g 14 0 0 9) + 1) (by simp [up]) ?_
        refine v_bipush (pc := 68) C rfl dL_calls_68 ?_
        refine v_iload (pc := 70) C 1 rfl dL_calls_70 ?_
        refine v_imul (pc := 72) C dL_calls_72 ?_
        refine v_bipush (pc := 73) C rfl dL_calls_73 ?_
        refine v_iload_n (pc := 75) C 2 rfl rfl dL_calls_75 ?_
        refine v_imul (pc := 76) C dL_calls_76 ?_
        refine v_iadd (pc := 77) C dL_calls_77 ?_
        refine v_iload_n (pc := 78) C 3 rfl rfl dL_calls_78 ?_
        refine v_iadd (pc := 79) C dL_calls_79 ?_
        refine as_17 (pc := 80) C ⟨by (first | assumption | omega | (unfold rg; omega)), by (first | assumption | omega | (unfold rg; omega))⟩ dL_calls_80 ?_
        refine v_aload_n (pc := 81) C 4 rfl rfl dL_calls_81 ?_
        refine v_bipush (pc := 82) C rfl dL_calls_82 ?_
        refine v_dup2 (pc := 84) C rfl rfl dL_calls_84 ?_
        refine al_14 (pc := 85) C ⟨by (first | assumption | omega | (unfold rg; omega)), by (first | assumption | omega | (unfold rg; omega))⟩ dL_calls_85 ((g 14 0 0 9) + 1) (by simp [up]) ?_
        refine v_iconst (pc := 86) C dL_calls_86 ?_
        refine v_iadd (pc := 87) C dL_calls_87 ?_
        refine as_14 (pc := 88) C ⟨by (first | assumption | omega | (unfold rg; omega)), by (first | assumption | omega | (unfold rg; omega))⟩ dL_calls_88 ?_
        refine v_iinc (pc := 89) C 0 [(7, .int (iI 2)), (6, .int (iI (g 15 0 0 (6 * p)))), (0, .int (iI p)), (1, .int (iI w)), (2, .ref (adr L 14 0 0)), (3, .ref (adr L 15 0 0)), (4, .ref (adr L 16 0 0)), (5, .ref (adr L 17 0 0))] rfl (by decide) rfl dL_calls_89 ?_
        refine v_goto (pc := 92) C 32 (by decide) dL_calls_92 ?_
        refine v_iload (pc := 32) C 0 rfl dL_calls_32 ?_
        refine v_iconst (pc := 34) C dL_calls_34 ?_
        refine v_icmp_ge (pc := 35) C 95 ⟨by (first | assumption | omega | (unfold rg; omega)), by (first | assumption | omega | (unfold rg; omega))⟩ ⟨by (first | assumption | omega | (unfold rg; omega)), by (first | assumption | omega | (unfold rg; omega))⟩ (by decide) dL_calls_35 (fun h35 => ?_) (fun h35 => ?_)
        · skip
          refine v_aload_n (pc := 95) C 4 rfl rfl dL_calls_95 ?_
          refine v_bipush (pc := 96) C rfl dL_calls_96 ?_
          refine v_dup2 (pc := 98) C rfl rfl dL_calls_98 ?_
          refine al_14 (pc := 99) C ⟨by (first | assumption | omega | (unfold rg; omega)), by (first | assumption | omega | (unfold rg; omega))⟩ dL_calls_99 (g 14 0 0 8) (by simp [up]) ?_
          refine v_iconst (pc := 100) C dL_calls_100 ?_
          refine v_iadd (pc := 101) C dL_calls_101 ?_
          refine as_14 (pc := 102) C ⟨by (first | assumption | omega | (unfold rg; omega)), by (first | assumption | omega | (unfold rg; omega))⟩ dL_calls_102 ?_
          refine v_aload_n (pc := 103) C 5 rfl rfl dL_calls_103 ?_
          refine v_bipush (pc := 104) C rfl dL_calls_104 ?_
          refine v_iload_n (pc := 106) C 2 rfl rfl dL_calls_106 ?_
          refine v_imul (pc := 107) C dL_calls_107 ?_
          refine v_iconst (pc := 108) C dL_calls_108 ?_
          refine v_iadd (pc := 109) C dL_calls_109 ?_
          refine v_dup2 (pc := 110) C rfl rfl dL_calls_110 ?_
          refine al_15 (pc := 111) C ⟨by (first | assumption | omega | (unfold rg; omega)), by (first | assumption | omega | (unfold rg; omega))⟩ dL_calls_111 (g 15 0 0 ((6 * p) + 2)) (by simp [up]) ?_
          refine v_iconst (pc := 112) C dL_calls_112 ?_
          refine v_iadd (pc := 113) C dL_calls_113 ?_
          refine as_15 (pc := 114) C ⟨by (first | assumption | omega | (unfold rg; omega)), by (first | assumption | omega | (unfold rg; omega))⟩ dL_calls_114 ?_
          refine v_iload (pc := 115) C 1 rfl dL_calls_115 ?_
          refine v_iconst (pc := 117) C dL_calls_117 ?_
          refine v_aload_n (pc := 118) C 4 rfl rfl dL_calls_118 ?_
          refine v_calliS (pc := 119) C cw_RL_67 (ct_L_delay l L (up (up (up (up (up (up (up (up g 16 0 0 (g 14 0 0 9) ((2 * ((g 14 0 0 3) + (lDl g (g 15 0 0 (6 * p)) 0))) + 0)) 17 0 0 (g 14 0 0 9) (((100 * (g 15 0 0 (6 * p))) + (10 * p)) + w)) 14 0 0 9 ((g 14 0 0 9) + 1)) 16 0 0 ((g 14 0 0 9) + 1) ((2 * ((g 14 0 0 3) + (lDl g (g 15 0 0 (6 * p)) 1))) + 1)) 17 0 0 ((g 14 0 0 9) + 1) (((100 * (g 15 0 0 (6 * p))) + (10 * p)) + w)) 14 0 0 9 (((g 14 0 0 9) + 1) + 1)) 14 0 0 8 ((g 14 0 0 8) + 2)) 15 0 0 ((6 * p) + 2) ((g 15 0 0 ((6 * p) + 2)) + 1)) (g 15 0 0 (6 * p)) 0 (by first | assumption | omega | (simp only [up]; grind)) (by first | assumption | omega | (simp only [up]; grind)) (by first | assumption | omega | (simp only [up]; grind)) (by first | assumption | omega | (simp only [up]; grind)) (by first | assumption | omega | (unfold rg; omega))) ⟨Nat.le_of_ble_eq_true rfl, Nat.le_of_ble_eq_true rfl⟩ rfl (Nat.le_of_ble_eq_true rfl) ⟨Nat.le_of_ble_eq_true rfl, Nat.le_of_ble_eq_true rfl⟩ rfl dL_calls_119 (fun r9 u9 hP_4 => ?_)
          obtain ⟨hP_4, hP_4b⟩ := hP_4
          rw [hP_4, hP_4b]
          clear hP_4 hP_4b r9 u9
          refine v_topi (b := lDl g (g 15 0 0 (6 * p)) 0) C (by unfold lDl; simp only [up]; grind) ?_
          refine v_istore (pc := 122) C [(7, .int (iI (lDl g (g 15 0 0 (6 * p)) 0))), (6, .int (iI (g 15 0 0 (6 * p)))), (0, .int (iI p)), (1, .int (iI w)), (2, .ref (adr L 14 0 0)), (3, .ref (adr L 15 0 0)), (4, .ref (adr L 16 0 0)), (5, .ref (adr L 17 0 0))] (by decide) rfl dL_calls_122 ?_
          refine v_iload (pc := 124) C 1 rfl dL_calls_124 ?_
          refine v_iconst (pc := 126) C dL_calls_126 ?_
          refine v_aload_n (pc := 127) C 4 rfl rfl dL_calls_127 ?_
          refine v_calliS (pc := 128) C cw_RL_67 (ct_L_delay l L (up (up (up (up (up (up (up (up g 16 0 0 (g 14 0 0 9) ((2 * ((g 14 0 0 3) + (lDl g (g 15 0 0 (6 * p)) 0))) + 0)) 17 0 0 (g 14 0 0 9) (((100 * (g 15 0 0 (6 * p))) + (10 * p)) + w)) 14 0 0 9 ((g 14 0 0 9) + 1)) 16 0 0 ((g 14 0 0 9) + 1) ((2 * ((g 14 0 0 3) + (lDl g (g 15 0 0 (6 * p)) 1))) + 1)) 17 0 0 ((g 14 0 0 9) + 1) (((100 * (g 15 0 0 (6 * p))) + (10 * p)) + w)) 14 0 0 9 (((g 14 0 0 9) + 1) + 1)) 14 0 0 8 ((g 14 0 0 8) + 2)) 15 0 0 ((6 * p) + 2) ((g 15 0 0 ((6 * p) + 2)) + 1)) (g 15 0 0 (6 * p)) 1 (by first | assumption | omega | (simp only [up]; grind)) (by first | assumption | omega | (simp only [up]; grind)) (by first | assumption | omega | (simp only [up]; grind)) (by first | assumption | omega | (simp only [up]; grind)) (by first | assumption | omega | (unfold rg; omega))) ⟨Nat.le_of_ble_eq_true rfl, Nat.le_of_ble_eq_true rfl⟩ rfl (Nat.le_of_ble_eq_true rfl) ⟨Nat.le_of_ble_eq_true rfl, Nat.le_of_ble_eq_true rfl⟩ rfl dL_calls_128 (fun r9 u9 hP_5 => ?_)
          obtain ⟨hP_5, hP_5b⟩ := hP_5
          rw [hP_5, hP_5b]
          clear hP_5 hP_5b r9 u9
          refine v_topi (b := lDl g (g 15 0 0 (6 * p)) 1) C (by unfold lDl; simp only [up]; grind) ?_
          refine v_istore (pc := 131) C [(8, .int (iI (lDl g (g 15 0 0 (6 * p)) 1))), (7, .int (iI (lDl g (g 15 0 0 (6 * p)) 0))), (6, .int (iI (g 15 0 0 (6 * p)))), (0, .int (iI p)), (1, .int (iI w)), (2, .ref (adr L 14 0 0)), (3, .ref (adr L 15 0 0)), (4, .ref (adr L 16 0 0)), (5, .ref (adr L 17 0 0))] (by decide) rfl dL_calls_131 ?_
          refine v_iload (pc := 133) C 1 rfl dL_calls_133 ?_
          refine v_iload (pc := 135) C 0 rfl dL_calls_135 ?_
          refine v_icmp_ge (pc := 137) C 145 ⟨by (first | assumption | omega | (unfold rg; omega)), by (first | assumption | omega | (unfold rg; omega))⟩ ⟨by (first | assumption | omega | (unfold rg; omega)), by (first | assumption | omega | (unfold rg; omega))⟩ (by decide) dL_calls_137 (fun h137 => ?_) (fun h137 => ?_)
          · skip
            refine v_iload (pc := 145) C 0 rfl dL_calls_145 ?_
            exact v_iret (pc := 147) C hr hlk (⟨congrArg iI (by unfold lcR; rw [if_neg (by omega)]; first | rw [if_pos (by omega)] | rw [if_neg (by omega)]), by unfold lcG; first | rw [if_pos (by omega)] | (rw [if_neg (by omega)]; rw [lcA_eq]; first | done | rfl | (funext f' k' j' i'; simp only [up]; grind))⟩) dL_calls_147
          · skip
            refine v_iload (pc := 140) C 1 rfl dL_calls_140 ?_
            refine v_goto (pc := 142) C 147 (by decide) dL_calls_142 ?_
            exact v_iret (pc := 147) C hr hlk (⟨congrArg iI (by unfold lcR; rw [if_neg (by omega)]; first | rw [if_pos (by omega)] | rw [if_neg (by omega)]), by unfold lcG; first | rw [if_pos (by omega)] | (rw [if_neg (by omega)]; rw [lcA_eq]; first | done | rfl | (funext f' k' j' i'; simp only [up]; grind))⟩) dL_calls_147
        · skip
          exfalso; omega
  · skip
    refine v_aload_n (pc := 11) C 2 rfl rfl dL_calls_11 ?_
    refine v_bipush (pc := 12) C rfl dL_calls_12 ?_
    refine v_dup2 (pc := 14) C rfl rfl dL_calls_14 ?_
    refine al_14 (pc := 15) C ⟨by (first | assumption | omega | (unfold rg; omega)), by (first | assumption | omega | (unfold rg; omega))⟩ dL_calls_15 (g 14 0 0 7) (rfl) ?_
    refine v_iconst (pc := 16) C dL_calls_16 ?_
    refine v_iadd (pc := 17) C dL_calls_17 ?_
    refine as_14 (pc := 18) C ⟨by (first | assumption | omega | (unfold rg; omega)), by (first | assumption | omega | (unfold rg; omega))⟩ dL_calls_18 ?_
    refine v_iconst (pc := 19) C dL_calls_19 ?_
    exact v_iret (pc := 20) C hr hlk (⟨congrArg iI (by unfold lcR; rw [if_pos (by omega)]), by unfold lcG; first | rw [if_pos (by omega)] | (rw [if_neg (by omega)]; rw [lcA_eq]; first | done | rfl | (funext f' k' j' i'; simp only [up]; grind))⟩) dL_calls_20
set_option maxHeartbeats 4000000 in
set_option maxRecDepth 100000 in
theorem ct_L_hasRoom (l : Launch) (L : Lay) (g : St) (a : Int) (hq : wq g 1) (ha : 0 ≤ a ∧ a ≤ 100) : Met l yL_hasRoom (.code yL_hasRoom cL_hasRoom 6 (some .boolean) :: wsL_law) { frames := 0, cells := 0, slots := 0, locals := 0 } (va_Pc [.int (iI a), .ref (adr L 14 0 0), .ref (adr L 15 0 0), .ref (adr L 17 0 0)] (HS L g)) (va_Qi (fun (r9 : Int32) (u9 : St) => r9 = iI (if lrN g ≤ a then 1 else 0) ∧ u9 = g) (fun u t => HS L u t) (Af L)) 0 0 (Af L) := by
  refine ct_mk (by decide +kernel) (Nat.le_of_ble_eq_true rfl) ?_
  intro pp ee ss mm bel mth cx C hr hlk
  show V pp l ee { frames := 0, cells := 0, slots := 0, locals := 0 } ss mm ([.int (iI a), .ref (adr L 14 0 0), .ref (adr L 15 0 0), .ref (adr L 17 0 0)]).toArray bel mth cx 6 L (HH L g) 0 0 _ 0 [(0, .int (iI a)), (1, .ref (adr L 14 0 0)), (2, .ref (adr L 15 0 0)), (3, .ref (adr L 17 0 0))] []
  obtain ⟨qS0, qS1, qS2, qB0, qB1, qCl, qN, qPl, qEc⟩ := wq_s hq
  refine v_aload_n (pc := 0) C 1 rfl rfl dL_hasRoom_0 ?_
  refine v_iconst (pc := 1) C dL_hasRoom_1 ?_
  refine al_14 (pc := 2) C ⟨by (first | assumption | omega | (unfold rg; omega)), by (first | assumption | omega | (unfold rg; omega))⟩ dL_hasRoom_2 (g 14 0 0 4) (rfl) ?_
  refine v_iload_n (pc := 3) C 0 rfl rfl dL_hasRoom_3 ?_
  refine v_icmp_gt (pc := 4) C 11 ⟨by (first | assumption | omega | (unfold rg; omega)), by (first | assumption | omega | (unfold rg; omega))⟩ ⟨by (first | assumption | omega | (unfold rg; omega)), by (first | assumption | omega | (unfold rg; omega))⟩ (by decide) dL_hasRoom_4 (fun h4 => ?_) (fun h4 => ?_)
  · skip
    refine v_iconst (pc := 11) C dL_hasRoom_11 ?_
    refine v_istore (pc := 12) C [(4, .int (iI 0)), (0, .int (iI a)), (1, .ref (adr L 14 0 0)), (2, .ref (adr L 15 0 0)), (3, .ref (adr L 17 0 0))] (by decide) rfl dL_hasRoom_12 ?_
    refine v_iconst (pc := 14) C dL_hasRoom_14 ?_
    refine v_istore (pc := 15) C [(5, .int (iI 0)), (4, .int (iI 0)), (0, .int (iI a)), (1, .ref (adr L 14 0 0)), (2, .ref (adr L 15 0 0)), (3, .ref (adr L 17 0 0))] (by decide) rfl dL_hasRoom_15 ?_
    have lb17 : ∀ (n9 : Nat) (i : Int) (z : Int), (0 ≤ i ∧ i ≤ 4) → (z = (if mxN (fun p => g 15 0 0 (6 * p)) i.toNat (g 14 0 0 4) ≤ a then 1 else 0)) → (z = 0 ∨ z = 1) → (4 - i).toNat < n9 → V pp l ee { frames := 0, cells := 0, slots := 0, locals := 0 } ss mm ([.int (iI a), .ref (adr L 14 0 0), .ref (adr L 15 0 0), .ref (adr L 17 0 0)]).toArray bel mth cx 6 L (HH L g) 0 0 (MQ bel (va_Qi (fun (r9 : Int32) (u9 : St) => r9 = iI (if lrN g ≤ a then 1 else 0) ∧ u9 = g) (fun u t => HS L u t) (Af L)) ([.int (iI a), .ref (adr L 14 0 0), .ref (adr L 15 0 0), .ref (adr L 17 0 0)]).toArray ss 0 0 (Af L)) 17 [(0, .int (iI a)), (1, .ref (adr L 14 0 0)), (2, .ref (adr L 15 0 0)), (3, .ref (adr L 17 0 0)), (4, .int (iI z)), (5, .int (iI i))] [] := by
      intro n9
      induction n9 with
      | zero => intro i z hi hz hz1 hm9; exact absurd hm9 (Nat.not_lt_zero _)
      | succ n9 ih9 =>
        intro i z hi hz hz1 hm9
        have ih17 := ih9
        refine v_iload (pc := 17) C 5 rfl dL_hasRoom_17 ?_
        refine v_iconst (pc := 19) C dL_hasRoom_19 ?_
        refine v_icmp_ge (pc := 20) C 52 ⟨by (first | assumption | omega | (unfold rg; omega)), by (first | assumption | omega | (unfold rg; omega))⟩ ⟨by (first | assumption | omega | (unfold rg; omega)), by (first | assumption | omega | (unfold rg; omega))⟩ (by decide) dL_hasRoom_20 (fun h20 => ?_) (fun h20 => ?_)
        · skip
          refine v_iconst (pc := 52) C dL_hasRoom_52 ?_
          refine v_istore (pc := 53) C [(5, .int (iI 0)), (0, .int (iI a)), (1, .ref (adr L 14 0 0)), (2, .ref (adr L 15 0 0)), (3, .ref (adr L 17 0 0)), (4, .int (iI z))] (by decide) rfl dL_hasRoom_53 ?_
          have lb55 : ∀ (n9 : Nat) (i : Int) (z : Int), (0 ≤ i ∧ i ≤ g 14 0 0 9) → (z = (if mxN (fun e => g 17 0 0 e / 100) i.toNat (mxN (fun p => g 15 0 0 (6 * p)) 4 (g 14 0 0 4)) ≤ a then 1 else 0)) → (z = 0 ∨ z = 1) → (g 14 0 0 9 - i).toNat < n9 → V pp l ee { frames := 0, cells := 0, slots := 0, locals := 0 } ss mm ([.int (iI a), .ref (adr L 14 0 0), .ref (adr L 15 0 0), .ref (adr L 17 0 0)]).toArray bel mth cx 6 L (HH L g) 0 0 (MQ bel (va_Qi (fun (r9 : Int32) (u9 : St) => r9 = iI (if lrN g ≤ a then 1 else 0) ∧ u9 = g) (fun u t => HS L u t) (Af L)) ([.int (iI a), .ref (adr L 14 0 0), .ref (adr L 15 0 0), .ref (adr L 17 0 0)]).toArray ss 0 0 (Af L)) 55 [(0, .int (iI a)), (1, .ref (adr L 14 0 0)), (2, .ref (adr L 15 0 0)), (3, .ref (adr L 17 0 0)), (4, .int (iI z)), (5, .int (iI i))] [] := by
            intro n9
            induction n9 with
            | zero => intro i z hi hz hz1 hm9; exact absurd hm9 (Nat.not_lt_zero _)
            | succ n9 ih9 =>
              intro i z hi hz hz1 hm9
              have ih55 := ih9
              refine v_iload (pc := 55) C 5 rfl dL_hasRoom_55 ?_
              refine v_aload_n (pc := 57) C 1 rfl rfl dL_hasRoom_57 ?_
              refine v_bipush (pc := 58) C rfl dL_hasRoom_58 ?_
              refine al_14 (pc := 60) C ⟨by (first | assumption | omega | (unfold rg; omega)), by (first | assumption | omega | (unfold rg; omega))⟩ dL_hasRoom_60 (g 14 0 0 9) (rfl) ?_
              refine v_icmp_ge (pc := 61) C 93 ⟨by (first | assumption | omega | (unfold rg; omega)), by (first | assumption | omega | (unfold rg; omega))⟩ ⟨by (first | assumption | omega | (unfold rg; omega)), by (first | assumption | omega | (unfold rg; omega))⟩ (by decide) dL_hasRoom_61 (fun h61 => ?_) (fun h61 => ?_)
              · skip
                refine v_iload (pc := 93) C 4 rfl dL_hasRoom_93 ?_
                exact v_zret (pc := 95) C hr hlk (by first | assumption | omega | (unfold rg; omega)) (⟨congrArg iI (by rw [hz, show i = g 14 0 0 9 by omega]; rfl), rfl⟩) dL_hasRoom_95
              · skip
                refine v_iload (pc := 64) C 4 rfl dL_hasRoom_64 ?_
                refine v_if_eq (pc := 66) C 84 ⟨by (first | assumption | omega | (unfold rg; omega)), by (first | assumption | omega | (unfold rg; omega))⟩ (by decide) dL_hasRoom_66 (fun h66 => ?_) (fun h66 => ?_)
                · skip
                  refine v_iconst (pc := 84) C dL_hasRoom_84 ?_
                  refine v_istore (pc := 85) C [(4, .int (iI 0)), (0, .int (iI a)), (1, .ref (adr L 14 0 0)), (2, .ref (adr L 15 0 0)), (3, .ref (adr L 17 0 0)), (5, .int (iI i))] (by decide) rfl dL_hasRoom_85 ?_
                  refine v_iinc (pc := 87) C 5 [(5, .int (iI (i + 1))), (4, .int (iI 0)), (0, .int (iI a)), (1, .ref (adr L 14 0 0)), (2, .ref (adr L 15 0 0)), (3, .ref (adr L 17 0 0))] rfl (by decide) rfl dL_hasRoom_87 ?_
                  refine v_goto (pc := 90) C 55 (by decide) dL_hasRoom_90 ?_
                  refine v_lsub [2, 3, 4, 5, 1, 0] rfl ?_
                  exact ih55 (i + 1) 0 (by omega) (by rw [rmN_s hi.1]; first | rw [if_pos ⟨by (apply Decidable.byContradiction; intro hx; rw [if_neg hx] at hz; omega), by omega⟩] | rw [if_neg (fun hx => by have h2 := hx.2; first | omega | (rw [if_pos hx.1] at hz; omega))]) (by omega) (by omega)
                · skip
                  have he := qEc i (by omega) (by omega)
                  refine v_aload_n (pc := 69) C 3 rfl rfl dL_hasRoom_69 ?_
                  refine v_iload (pc := 70) C 5 rfl dL_hasRoom_70 ?_
                  refine al_17 (pc := 72) C ⟨by (first | assumption | omega | (unfold rg; omega)), by (first | assumption | omega | (unfold rg; omega))⟩ dL_hasRoom_72 (g 17 0 0 i) (rfl) ?_
                  refine v_bipush (pc := 73) C rfl dL_hasRoom_73 ?_
                  refine v_idiv (pc := 75) C (⟨⟨by (first | assumption | omega | (unfold rg; omega)), by (first | assumption | omega | (unfold rg; omega))⟩, ⟨by (first | assumption | omega | (unfold rg; omega)), by (first | assumption | omega | (unfold rg; omega))⟩, by (first | assumption | omega | (unfold rg; omega)), by (first | assumption | omega | (unfold rg; omega))⟩) dL_hasRoom_75 ?_
                  refine v_iload_n (pc := 76) C 0 rfl rfl dL_hasRoom_76 ?_
                  refine v_icmp_gt (pc := 77) C 84 ⟨by (first | assumption | omega | (unfold rg; omega)), by (first | assumption | omega | (unfold rg; omega))⟩ ⟨by (first | assumption | omega | (unfold rg; omega)), by (first | assumption | omega | (unfold rg; omega))⟩ (by decide) dL_hasRoom_77 (fun h77 => ?_) (fun h77 => ?_)
                  · skip
                    refine v_iconst (pc := 84) C dL_hasRoom_84 ?_
                    refine v_istore (pc := 85) C [(4, .int (iI 0)), (0, .int (iI a)), (1, .ref (adr L 14 0 0)), (2, .ref (adr L 15 0 0)), (3, .ref (adr L 17 0 0)), (5, .int (iI i))] (by decide) rfl dL_hasRoom_85 ?_
                    refine v_iinc (pc := 87) C 5 [(5, .int (iI (i + 1))), (4, .int (iI 0)), (0, .int (iI a)), (1, .ref (adr L 14 0 0)), (2, .ref (adr L 15 0 0)), (3, .ref (adr L 17 0 0))] rfl (by decide) rfl dL_hasRoom_87 ?_
                    refine v_goto (pc := 90) C 55 (by decide) dL_hasRoom_90 ?_
                    refine v_lsub [2, 3, 4, 5, 1, 0] rfl ?_
                    exact ih55 (i + 1) 0 (by omega) (by rw [rmN_s hi.1]; first | rw [if_pos ⟨by (apply Decidable.byContradiction; intro hx; rw [if_neg hx] at hz; omega), by omega⟩] | rw [if_neg (fun hx => by have h2 := hx.2; first | omega | (rw [if_pos hx.1] at hz; omega))]) (by omega) (by omega)
                  · skip
                    refine v_iconst (pc := 80) C dL_hasRoom_80 ?_
                    refine v_goto (pc := 81) C 85 (by decide) dL_hasRoom_81 ?_
                    refine v_istore (pc := 85) C [(4, .int (iI 1)), (0, .int (iI a)), (1, .ref (adr L 14 0 0)), (2, .ref (adr L 15 0 0)), (3, .ref (adr L 17 0 0)), (5, .int (iI i))] (by decide) rfl dL_hasRoom_85 ?_
                    refine v_iinc (pc := 87) C 5 [(5, .int (iI (i + 1))), (4, .int (iI 1)), (0, .int (iI a)), (1, .ref (adr L 14 0 0)), (2, .ref (adr L 15 0 0)), (3, .ref (adr L 17 0 0))] rfl (by decide) rfl dL_hasRoom_87 ?_
                    refine v_goto (pc := 90) C 55 (by decide) dL_hasRoom_90 ?_
                    refine v_lsub [2, 3, 4, 5, 1, 0] rfl ?_
                    exact ih55 (i + 1) 1 (by omega) (by rw [rmN_s hi.1]; first | rw [if_pos ⟨by (apply Decidable.byContradiction; intro hx; rw [if_neg hx] at hz; omega), by omega⟩] | rw [if_neg (fun hx => by have h2 := hx.2; first | omega | (rw [if_pos hx.1] at hz; omega))]) (by omega) (by omega)
          refine v_lsub [1, 2, 3, 4, 5, 0] rfl ?_
          exact lb55 _ 0 z (by omega) (by rw [hz, show i = 4 by omega]; rfl) (by omega) (Nat.lt_succ_self _)
        · skip
          refine v_iload (pc := 23) C 4 rfl dL_hasRoom_23 ?_
          refine v_if_eq (pc := 25) C 43 ⟨by (first | assumption | omega | (unfold rg; omega)), by (first | assumption | omega | (unfold rg; omega))⟩ (by decide) dL_hasRoom_25 (fun h25 => ?_) (fun h25 => ?_)
          · skip
            refine v_iconst (pc := 43) C dL_hasRoom_43 ?_
            refine v_istore (pc := 44) C [(4, .int (iI 0)), (0, .int (iI a)), (1, .ref (adr L 14 0 0)), (2, .ref (adr L 15 0 0)), (3, .ref (adr L 17 0 0)), (5, .int (iI i))] (by decide) rfl dL_hasRoom_44 ?_
            refine v_iinc (pc := 46) C 5 [(5, .int (iI (i + 1))), (4, .int (iI 0)), (0, .int (iI a)), (1, .ref (adr L 14 0 0)), (2, .ref (adr L 15 0 0)), (3, .ref (adr L 17 0 0))] rfl (by decide) rfl dL_hasRoom_46 ?_
            refine v_goto (pc := 49) C 17 (by decide) dL_hasRoom_49 ?_
            refine v_lsub [2, 3, 4, 5, 1, 0] rfl ?_
            exact ih17 (i + 1) 0 (by omega) (by rw [rmN_s hi.1]; first | rw [if_pos ⟨by (apply Decidable.byContradiction; intro hx; rw [if_neg hx] at hz; omega), by omega⟩] | rw [if_neg (fun hx => by have h2 := hx.2; first | omega | (rw [if_pos hx.1] at hz; omega))]) (by omega) (by omega)
          · skip
            have hpl := qPl i (by omega) (by omega)
            refine v_aload_n (pc := 28) C 2 rfl rfl dL_hasRoom_28 ?_
            refine v_bipush (pc := 29) C rfl dL_hasRoom_29 ?_
            refine v_iload (pc := 31) C 5 rfl dL_hasRoom_31 ?_
            refine v_imul (pc := 33) C dL_hasRoom_33 ?_
            refine al_15 (pc := 34) C ⟨by (first | assumption | omega | (unfold rg; omega)), by (first | assumption | omega | (unfold rg; omega))⟩ dL_hasRoom_34 (g 15 0 0 (6 * i)) (rfl) ?_
            refine v_iload_n (pc := 35) C 0 rfl rfl dL_hasRoom_35 ?_
            refine v_icmp_gt (pc := 36) C 43 ⟨by (first | assumption | omega | (unfold rg; omega)), by (first | assumption | omega | (unfold rg; omega))⟩ ⟨by (first | assumption | omega | (unfold rg; omega)), by (first | assumption | omega | (unfold rg; omega))⟩ (by decide) dL_hasRoom_36 (fun h36 => ?_) (fun h36 => ?_)
            · skip
              refine v_iconst (pc := 43) C dL_hasRoom_43 ?_
              refine v_istore (pc := 44) C [(4, .int (iI 0)), (0, .int (iI a)), (1, .ref (adr L 14 0 0)), (2, .ref (adr L 15 0 0)), (3, .ref (adr L 17 0 0)), (5, .int (iI i))] (by decide) rfl dL_hasRoom_44 ?_
              refine v_iinc (pc := 46) C 5 [(5, .int (iI (i + 1))), (4, .int (iI 0)), (0, .int (iI a)), (1, .ref (adr L 14 0 0)), (2, .ref (adr L 15 0 0)), (3, .ref (adr L 17 0 0))] rfl (by decide) rfl dL_hasRoom_46 ?_
              refine v_goto (pc := 49) C 17 (by decide) dL_hasRoom_49 ?_
              refine v_lsub [2, 3, 4, 5, 1, 0] rfl ?_
              exact ih17 (i + 1) 0 (by omega) (by rw [rmN_s hi.1]; first | rw [if_pos ⟨by (apply Decidable.byContradiction; intro hx; rw [if_neg hx] at hz; omega), by omega⟩] | rw [if_neg (fun hx => by have h2 := hx.2; first | omega | (rw [if_pos hx.1] at hz; omega))]) (by omega) (by omega)
            · skip
              refine v_iconst (pc := 39) C dL_hasRoom_39 ?_
              refine v_goto (pc := 40) C 44 (by decide) dL_hasRoom_40 ?_
              refine v_istore (pc := 44) C [(4, .int (iI 1)), (0, .int (iI a)), (1, .ref (adr L 14 0 0)), (2, .ref (adr L 15 0 0)), (3, .ref (adr L 17 0 0)), (5, .int (iI i))] (by decide) rfl dL_hasRoom_44 ?_
              refine v_iinc (pc := 46) C 5 [(5, .int (iI (i + 1))), (4, .int (iI 1)), (0, .int (iI a)), (1, .ref (adr L 14 0 0)), (2, .ref (adr L 15 0 0)), (3, .ref (adr L 17 0 0))] rfl (by decide) rfl dL_hasRoom_46 ?_
              refine v_goto (pc := 49) C 17 (by decide) dL_hasRoom_49 ?_
              refine v_lsub [2, 3, 4, 5, 1, 0] rfl ?_
              exact ih17 (i + 1) 1 (by omega) (by rw [rmN_s hi.1]; first | rw [if_pos ⟨by (apply Decidable.byContradiction; intro hx; rw [if_neg hx] at hz; omega), by omega⟩] | rw [if_neg (fun hx => by have h2 := hx.2; first | omega | (rw [if_pos hx.1] at hz; omega))]) (by omega) (by omega)
    refine v_lsub [2, 3, 4, 5, 1, 0] rfl ?_
    exact lb17 _ 0 0 (by omega) (by first | exact (if_pos (show mxN _ (0 : Int).toNat _ ≤ a by show g 14 0 0 4 ≤ a; omega)).symm | exact (if_neg (show ¬ mxN _ (0 : Int).toNat _ ≤ a by show ¬ g 14 0 0 4 ≤ a; omega)).symm) (by omega) (Nat.lt_succ_self _)
  · skip
    refine v_iconst (pc := 7) C dL_hasRoom_7 ?_
    refine v_goto (pc := 8) C 12 (by decide) dL_hasRoom_8 ?_
    refine v_istore (pc := 12) C [(4, .int (iI 1)), (0, .int (iI a)), (1, .ref (adr L 14 0 0)), (2, .ref (adr L 15 0 0)), (3, .ref (adr L 17 0 0))] (by decide) rfl dL_hasRoom_12 ?_
    refine v_iconst (pc := 14) C dL_hasRoom_14 ?_
    refine v_istore (pc := 15) C [(5, .int (iI 0)), (4, .int (iI 1)), (0, .int (iI a)), (1, .ref (adr L 14 0 0)), (2, .ref (adr L 15 0 0)), (3, .ref (adr L 17 0 0))] (by decide) rfl dL_hasRoom_15 ?_
    have lb17 : ∀ (n9 : Nat) (i : Int) (z : Int), (0 ≤ i ∧ i ≤ 4) → (z = (if mxN (fun p => g 15 0 0 (6 * p)) i.toNat (g 14 0 0 4) ≤ a then 1 else 0)) → (z = 0 ∨ z = 1) → (4 - i).toNat < n9 → V pp l ee { frames := 0, cells := 0, slots := 0, locals := 0 } ss mm ([.int (iI a), .ref (adr L 14 0 0), .ref (adr L 15 0 0), .ref (adr L 17 0 0)]).toArray bel mth cx 6 L (HH L g) 0 0 (MQ bel (va_Qi (fun (r9 : Int32) (u9 : St) => r9 = iI (if lrN g ≤ a then 1 else 0) ∧ u9 = g) (fun u t => HS L u t) (Af L)) ([.int (iI a), .ref (adr L 14 0 0), .ref (adr L 15 0 0), .ref (adr L 17 0 0)]).toArray ss 0 0 (Af L)) 17 [(0, .int (iI a)), (1, .ref (adr L 14 0 0)), (2, .ref (adr L 15 0 0)), (3, .ref (adr L 17 0 0)), (4, .int (iI z)), (5, .int (iI i))] [] := by
      intro n9
      induction n9 with
      | zero => intro i z hi hz hz1 hm9; exact absurd hm9 (Nat.not_lt_zero _)
      | succ n9 ih9 =>
        intro i z hi hz hz1 hm9
        have ih17 := ih9
        refine v_iload (pc := 17) C 5 rfl dL_hasRoom_17 ?_
        refine v_iconst (pc := 19) C dL_hasRoom_19 ?_
        refine v_icmp_ge (pc := 20) C 52 ⟨by (first | assumption | omega | (unfold rg; omega)), by (first | assumption | omega | (unfold rg; omega))⟩ ⟨by (first | assumption | omega | (unfold rg; omega)), by (first | assumption | omega | (unfold rg; omega))⟩ (by decide) dL_hasRoom_20 (fun h20 => ?_) (fun h20 => ?_)
        · skip
          refine v_iconst (pc := 52) C dL_hasRoom_52 ?_
          refine v_istore (pc := 53) C [(5, .int (iI 0)), (0, .int (iI a)), (1, .ref (adr L 14 0 0)), (2, .ref (adr L 15 0 0)), (3, .ref (adr L 17 0 0)), (4, .int (iI z))] (by decide) rfl dL_hasRoom_53 ?_
          have lb55 : ∀ (n9 : Nat) (i : Int) (z : Int), (0 ≤ i ∧ i ≤ g 14 0 0 9) → (z = (if mxN (fun e => g 17 0 0 e / 100) i.toNat (mxN (fun p => g 15 0 0 (6 * p)) 4 (g 14 0 0 4)) ≤ a then 1 else 0)) → (z = 0 ∨ z = 1) → (g 14 0 0 9 - i).toNat < n9 → V pp l ee { frames := 0, cells := 0, slots := 0, locals := 0 } ss mm ([.int (iI a), .ref (adr L 14 0 0), .ref (adr L 15 0 0), .ref (adr L 17 0 0)]).toArray bel mth cx 6 L (HH L g) 0 0 (MQ bel (va_Qi (fun (r9 : Int32) (u9 : St) => r9 = iI (if lrN g ≤ a then 1 else 0) ∧ u9 = g) (fun u t => HS L u t) (Af L)) ([.int (iI a), .ref (adr L 14 0 0), .ref (adr L 15 0 0), .ref (adr L 17 0 0)]).toArray ss 0 0 (Af L)) 55 [(0, .int (iI a)), (1, .ref (adr L 14 0 0)), (2, .ref (adr L 15 0 0)), (3, .ref (adr L 17 0 0)), (4, .int (iI z)), (5, .int (iI i))] [] := by
            intro n9
            induction n9 with
            | zero => intro i z hi hz hz1 hm9; exact absurd hm9 (Nat.not_lt_zero _)
            | succ n9 ih9 =>
              intro i z hi hz hz1 hm9
              have ih55 := ih9
              refine v_iload (pc := 55) C 5 rfl dL_hasRoom_55 ?_
              refine v_aload_n (pc := 57) C 1 rfl rfl dL_hasRoom_57 ?_
              refine v_bipush (pc := 58) C rfl dL_hasRoom_58 ?_
              refine al_14 (pc := 60) C ⟨by (first | assumption | omega | (unfold rg; omega)), by (first | assumption | omega | (unfold rg; omega))⟩ dL_hasRoom_60 (g 14 0 0 9) (rfl) ?_
              refine v_icmp_ge (pc := 61) C 93 ⟨by (first | assumption | omega | (unfold rg; omega)), by (first | assumption | omega | (unfold rg; omega))⟩ ⟨by (first | assumption | omega | (unfold rg; omega)), by (first | assumption | omega | (unfold rg; omega))⟩ (by decide) dL_hasRoom_61 (fun h61 => ?_) (fun h61 => ?_)
              · skip
                refine v_iload (pc := 93) C 4 rfl dL_hasRoom_93 ?_
                exact v_zret (pc := 95) C hr hlk (by first | assumption | omega | (unfold rg; omega)) (⟨congrArg iI (by rw [hz, show i = g 14 0 0 9 by omega]; rfl), rfl⟩) dL_hasRoom_95
              · skip
                refine v_iload (pc := 64) C 4 rfl dL_hasRoom_64 ?_
                refine v_if_eq (pc := 66) C 84 ⟨by (first | assumption | omega | (unfold rg; omega)), by (first | assumption | omega | (unfold rg; omega))⟩ (by decide) dL_hasRoom_66 (fun h66 => ?_) (fun h66 => ?_)
                · skip
                  refine v_iconst (pc := 84) C dL_hasRoom_84 ?_
                  refine v_istore (pc := 85) C [(4, .int (iI 0)), (0, .int (iI a)), (1, .ref (adr L 14 0 0)), (2, .ref (adr L 15 0 0)), (3, .ref (adr L 17 0 0)), (5, .int (iI i))] (by decide) rfl dL_hasRoom_85 ?_
                  refine v_iinc (pc := 87) C 5 [(5, .int (iI (i + 1))), (4, .int (iI 0)), (0, .int (iI a)), (1, .ref (adr L 14 0 0)), (2, .ref (adr L 15 0 0)), (3, .ref (adr L 17 0 0))] rfl (by decide) rfl dL_hasRoom_87 ?_
                  refine v_goto (pc := 90) C 55 (by decide) dL_hasRoom_90 ?_
                  refine v_lsub [2, 3, 4, 5, 1, 0] rfl ?_
                  exact ih55 (i + 1) 0 (by omega) (by rw [rmN_s hi.1]; first | rw [if_pos ⟨by (apply Decidable.byContradiction; intro hx; rw [if_neg hx] at hz; omega), by omega⟩] | rw [if_neg (fun hx => by have h2 := hx.2; first | omega | (rw [if_pos hx.1] at hz; omega))]) (by omega) (by omega)
                · skip
                  have he := qEc i (by omega) (by omega)
                  refine v_aload_n (pc := 69) C 3 rfl rfl dL_hasRoom_69 ?_
                  refine v_iload (pc := 70) C 5 rfl dL_hasRoom_70 ?_
                  refine al_17 (pc := 72) C ⟨by (first | assumption | omega | (unfold rg; omega)), by (first | assumption | omega | (unfold rg; omega))⟩ dL_hasRoom_72 (g 17 0 0 i) (rfl) ?_
                  refine v_bipush (pc := 73) C rfl dL_hasRoom_73 ?_
                  refine v_idiv (pc := 75) C (⟨⟨by (first | assumption | omega | (unfold rg; omega)), by (first | assumption | omega | (unfold rg; omega))⟩, ⟨by (first | assumption | omega | (unfold rg; omega)), by (first | assumption | omega | (unfold rg; omega))⟩, by (first | assumption | omega | (unfold rg; omega)), by (first | assumption | omega | (unfold rg; omega))⟩) dL_hasRoom_75 ?_
                  refine v_iload_n (pc := 76) C 0 rfl rfl dL_hasRoom_76 ?_
                  refine v_icmp_gt (pc := 77) C 84 ⟨by (first | assumption | omega | (unfold rg; omega)), by (first | assumption | omega | (unfold rg; omega))⟩ ⟨by (first | assumption | omega | (unfold rg; omega)), by (first | assumption | omega | (unfold rg; omega))⟩ (by decide) dL_hasRoom_77 (fun h77 => ?_) (fun h77 => ?_)
                  · skip
                    refine v_iconst (pc := 84) C dL_hasRoom_84 ?_
                    refine v_istore (pc := 85) C [(4, .int (iI 0)), (0, .int (iI a)), (1, .ref (adr L 14 0 0)), (2, .ref (adr L 15 0 0)), (3, .ref (adr L 17 0 0)), (5, .int (iI i))] (by decide) rfl dL_hasRoom_85 ?_
                    refine v_iinc (pc := 87) C 5 [(5, .int (iI (i + 1))), (4, .int (iI 0)), (0, .int (iI a)), (1, .ref (adr L 14 0 0)), (2, .ref (adr L 15 0 0)), (3, .ref (adr L 17 0 0))] rfl (by decide) rfl dL_hasRoom_87 ?_
                    refine v_goto (pc := 90) C 55 (by decide) dL_hasRoom_90 ?_
                    refine v_lsub [2, 3, 4, 5, 1, 0] rfl ?_
                    exact ih55 (i + 1) 0 (by omega) (by rw [rmN_s hi.1]; first | rw [if_pos ⟨by (apply Decidable.byContradiction; intro hx; rw [if_neg hx] at hz; omega), by omega⟩] | rw [if_neg (fun hx => by have h2 := hx.2; first | omega | (rw [if_pos hx.1] at hz; omega))]) (by omega) (by omega)
                  · skip
                    refine v_iconst (pc := 80) C dL_hasRoom_80 ?_
                    refine v_goto (pc := 81) C 85 (by decide) dL_hasRoom_81 ?_
                    refine v_istore (pc := 85) C [(4, .int (iI 1)), (0, .int (iI a)), (1, .ref (adr L 14 0 0)), (2, .ref (adr L 15 0 0)), (3, .ref (adr L 17 0 0)), (5, .int (iI i))] (by decide) rfl dL_hasRoom_85 ?_
                    refine v_iinc (pc := 87) C 5 [(5, .int (iI (i + 1))), (4, .int (iI 1)), (0, .int (iI a)), (1, .ref (adr L 14 0 0)), (2, .ref (adr L 15 0 0)), (3, .ref (adr L 17 0 0))] rfl (by decide) rfl dL_hasRoom_87 ?_
                    refine v_goto (pc := 90) C 55 (by decide) dL_hasRoom_90 ?_
                    refine v_lsub [2, 3, 4, 5, 1, 0] rfl ?_
                    exact ih55 (i + 1) 1 (by omega) (by rw [rmN_s hi.1]; first | rw [if_pos ⟨by (apply Decidable.byContradiction; intro hx; rw [if_neg hx] at hz; omega), by omega⟩] | rw [if_neg (fun hx => by have h2 := hx.2; first | omega | (rw [if_pos hx.1] at hz; omega))]) (by omega) (by omega)
          refine v_lsub [1, 2, 3, 4, 5, 0] rfl ?_
          exact lb55 _ 0 z (by omega) (by rw [hz, show i = 4 by omega]; rfl) (by omega) (Nat.lt_succ_self _)
        · skip
          refine v_iload (pc := 23) C 4 rfl dL_hasRoom_23 ?_
          refine v_if_eq (pc := 25) C 43 ⟨by (first | assumption | omega | (unfold rg; omega)), by (first | assumption | omega | (unfold rg; omega))⟩ (by decide) dL_hasRoom_25 (fun h25 => ?_) (fun h25 => ?_)
          · skip
            refine v_iconst (pc := 43) C dL_hasRoom_43 ?_
            refine v_istore (pc := 44) C [(4, .int (iI 0)), (0, .int (iI a)), (1, .ref (adr L 14 0 0)), (2, .ref (adr L 15 0 0)), (3, .ref (adr L 17 0 0)), (5, .int (iI i))] (by decide) rfl dL_hasRoom_44 ?_
            refine v_iinc (pc := 46) C 5 [(5, .int (iI (i + 1))), (4, .int (iI 0)), (0, .int (iI a)), (1, .ref (adr L 14 0 0)), (2, .ref (adr L 15 0 0)), (3, .ref (adr L 17 0 0))] rfl (by decide) rfl dL_hasRoom_46 ?_
            refine v_goto (pc := 49) C 17 (by decide) dL_hasRoom_49 ?_
            refine v_lsub [2, 3, 4, 5, 1, 0] rfl ?_
            exact ih17 (i + 1) 0 (by omega) (by rw [rmN_s hi.1]; first | rw [if_pos ⟨by (apply Decidable.byContradiction; intro hx; rw [if_neg hx] at hz; omega), by omega⟩] | rw [if_neg (fun hx => by have h2 := hx.2; first | omega | (rw [if_pos hx.1] at hz; omega))]) (by omega) (by omega)
          · skip
            have hpl := qPl i (by omega) (by omega)
            refine v_aload_n (pc := 28) C 2 rfl rfl dL_hasRoom_28 ?_
            refine v_bipush (pc := 29) C rfl dL_hasRoom_29 ?_
            refine v_iload (pc := 31) C 5 rfl dL_hasRoom_31 ?_
            refine v_imul (pc := 33) C dL_hasRoom_33 ?_
            refine al_15 (pc := 34) C ⟨by (first | assumption | omega | (unfold rg; omega)), by (first | assumption | omega | (unfold rg; omega))⟩ dL_hasRoom_34 (g 15 0 0 (6 * i)) (rfl) ?_
            refine v_iload_n (pc := 35) C 0 rfl rfl dL_hasRoom_35 ?_
            refine v_icmp_gt (pc := 36) C 43 ⟨by (first | assumption | omega | (unfold rg; omega)), by (first | assumption | omega | (unfold rg; omega))⟩ ⟨by (first | assumption | omega | (unfold rg; omega)), by (first | assumption | omega | (unfold rg; omega))⟩ (by decide) dL_hasRoom_36 (fun h36 => ?_) (fun h36 => ?_)
            · skip
              refine v_iconst (pc := 43) C dL_hasRoom_43 ?_
              refine v_istore (pc := 44) C [(4, .int (iI 0)), (0, .int (iI a)), (1, .ref (adr L 14 0 0)), (2, .ref (adr L 15 0 0)), (3, .ref (adr L 17 0 0)), (5, .int (iI i))] (by decide) rfl dL_hasRoom_44 ?_
              refine v_iinc (pc := 46) C 5 [(5, .int (iI (i + 1))), (4, .int (iI 0)), (0, .int (iI a)), (1, .ref (adr L 14 0 0)), (2, .ref (adr L 15 0 0)), (3, .ref (adr L 17 0 0))] rfl (by decide) rfl dL_hasRoom_46 ?_
              refine v_goto (pc := 49) C 17 (by decide) dL_hasRoom_49 ?_
              refine v_lsub [2, 3, 4, 5, 1, 0] rfl ?_
              exact ih17 (i + 1) 0 (by omega) (by rw [rmN_s hi.1]; first | rw [if_pos ⟨by (apply Decidable.byContradiction; intro hx; rw [if_neg hx] at hz; omega), by omega⟩] | rw [if_neg (fun hx => by have h2 := hx.2; first | omega | (rw [if_pos hx.1] at hz; omega))]) (by omega) (by omega)
            · skip
              refine v_iconst (pc := 39) C dL_hasRoom_39 ?_
              refine v_goto (pc := 40) C 44 (by decide) dL_hasRoom_40 ?_
              refine v_istore (pc := 44) C [(4, .int (iI 1)), (0, .int (iI a)), (1, .ref (adr L 14 0 0)), (2, .ref (adr L 15 0 0)), (3, .ref (adr L 17 0 0)), (5, .int (iI i))] (by decide) rfl dL_hasRoom_44 ?_
              refine v_iinc (pc := 46) C 5 [(5, .int (iI (i + 1))), (4, .int (iI 1)), (0, .int (iI a)), (1, .ref (adr L 14 0 0)), (2, .ref (adr L 15 0 0)), (3, .ref (adr L 17 0 0))] rfl (by decide) rfl dL_hasRoom_46 ?_
              refine v_goto (pc := 49) C 17 (by decide) dL_hasRoom_49 ?_
              refine v_lsub [2, 3, 4, 5, 1, 0] rfl ?_
              exact ih17 (i + 1) 1 (by omega) (by rw [rmN_s hi.1]; first | rw [if_pos ⟨by (apply Decidable.byContradiction; intro hx; rw [if_neg hx] at hz; omega), by omega⟩] | rw [if_neg (fun hx => by have h2 := hx.2; first | omega | (rw [if_pos hx.1] at hz; omega))]) (by omega) (by omega)
    refine v_lsub [2, 3, 4, 5, 1, 0] rfl ?_
    exact lb17 _ 0 1 (by omega) (by first | exact (if_pos (show mxN _ (0 : Int).toNat _ ≤ a by show g 14 0 0 4 ≤ a; omega)).symm | exact (if_neg (show ¬ mxN _ (0 : Int).toNat _ ≤ a by show ¬ g 14 0 0 4 ≤ a; omega)).symm) (by omega) (Nat.lt_succ_self _)
