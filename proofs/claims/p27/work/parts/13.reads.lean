/-! pure words of a canyon -/
/-- how many i < n with P i -/
def cn (P : Int → Bool) : Nat → Int
  | 0 => 0
  | n + 1 => cn P n + (if P n = true then 1 else 0)
theorem cn_s {P : Int → Bool} {i : Int} (h : 0 ≤ i) : cn P (i + 1).toNat = cn P i.toNat + (if P i = true then 1 else 0) := by
  rw [show (i + 1).toNat = i.toNat + 1 by omega, cn, show ((i.toNat : Nat) : Int) = i by omega]
theorem cn_0 (P : Int → Bool) : cn P (0 : Int).toNat = 0 := rfl
theorem cn_nn (P : Int → Bool) : ∀ n, 0 ≤ cn P n ∧ cn P n ≤ n
  | 0 => ⟨Int.le_refl 0, Int.le_refl 0⟩
  | n + 1 => by
    have := cn_nn P n
    simp only [cn]; split <;> omega
theorem cn_mono (P : Int → Bool) {a b : Nat} (h : a ≤ b) : cn P a ≤ cn P b := by
  induction b with
  | zero => rw [show a = 0 by omega]; exact Int.le_refl _
  | succ b ih =>
    by_cases hb : a = b + 1
    · rw [hb]; exact Int.le_refl _
    · have := ih (by omega)
      simp only [cn]; split <;> omega
theorem cn_pos {P : Int → Bool} {i n : Int} (h : 0 ≤ i) (h2 : i < n) (hp : P i = true) : 0 < cn P n.toNat := by
  have h1 := cn_s (P := P) h
  rw [hp] at h1
  have h3 := cn_mono P (a := (i + 1).toNat) (b := n.toNat) (by omega)
  have h4 := (cn_nn P i.toNat).1
  simp at h1; omega
theorem cn_ex {P : Int → Bool} : ∀ {n : Nat}, 0 < cn P n → ∃ i : Int, 0 ≤ i ∧ i < n ∧ P i = true
  | 0, h => by simp [cn] at h
  | n + 1, h => by
    simp only [cn] at h
    by_cases hp : P n = true
    · exact ⟨n, by omega, by omega, hp⟩
    · rw [if_neg hp] at h
      obtain ⟨i, h1, h2, h3⟩ := cn_ex (P := P) (n := n) (by omega)
      exact ⟨i, h1, by omega, h3⟩
theorem cn_congr {P P2 : Int → Bool} : ∀ {n : Nat}, (∀ i : Int, 0 ≤ i → i < n → P i = P2 i) → cn P n = cn P2 n
  | 0, _ => rfl
  | n + 1, h => by
    simp only [cn]
    rw [cn_congr (n := n) (fun i h1 h2 => h i h1 (by omega)), h n (by omega) (by omega)]
def mxN (f : Int → Int) : Nat → Int → Int
  | 0, b => b
  | n + 1, b => max (mxN f n b) (f n)
theorem mxN_s {f : Int → Int} {i b : Int} (h : 0 ≤ i) : mxN f (i + 1).toNat b = max (mxN f i.toNat b) (f i) := by
  rw [show (i + 1).toNat = i.toNat + 1 by omega, mxN, show ((i.toNat : Nat) : Int) = i by omega]
theorem mxN_le {f : Int → Int} {v : Int} : ∀ {n : Nat} {b : Int}, mxN f n b ≤ v ↔ b ≤ v ∧ ∀ i : Int, 0 ≤ i → i < n → f i ≤ v
  | 0, b => ⟨fun h => ⟨h, fun i h1 h2 => by omega⟩, fun h => h.1⟩
  | n + 1, b => by
    simp only [mxN]
    rw [Int.max_le, mxN_le (n := n)]
    constructor
    · rintro ⟨⟨h1, h2⟩, h3⟩
      refine ⟨h1, fun i h4 h5 => ?_⟩
      by_cases hi : i = n
      · rw [hi]; exact h3
      · exact h2 i h4 (by omega)
    · rintro ⟨h1, h2⟩
      exact ⟨⟨h1, fun i h3 h4 => h2 i h3 (by omega)⟩, h2 n (by omega) (by omega)⟩
/-- the first a, a + 1 .. with P, of f of them; -1 -/
def frst (P : Int → Bool) : Nat → Int → Int
  | 0, _ => -1
  | f + 1, a => if P a = true then a else frst P f (a + 1)
theorem frst_s {P : Int → Bool} {a e : Int} (h : a < e) : frst P (e - a).toNat a = if P a = true then a else frst P (e - (a + 1)).toNat (a + 1) := by
  rw [show (e - a).toNat = (e - (a + 1)).toNat + 1 by omega, frst]
/-- what an echo is held to: its cell c, at least d turns ahead -/
def okE (g : St) (k d c : Int) : Prop := (0 ≤ g 7 k c 0 ∧ g 7 k c 0 < 4) ∧ (0 ≤ g 7 k c 1 ∧ g 7 k c 1 ≤ g 2 k 0 0) ∧ (0 ≤ g 7 k c 2 ∧ g 7 k c 2 ≤ 9) ∧ (g 1 k 0 0 + d ≤ g 7 k c 3 ∧ g 7 k c 3 ≤ g 1 k 0 0 + 200) ∧ (g 7 k c 4 = 0 ∨ g 7 k c 4 = 1)
/-- a canyon k that is whole -/
def wf (g : St) (k d : Int) : Prop := (8 ≤ g 2 k 0 0 ∧ g 2 k 0 0 ≤ 40) ∧ (1 ≤ g 2 k 0 1 ∧ g 2 k 0 1 ≤ 9) ∧ (0 ≤ g 2 k 0 2 ∧ g 2 k 0 2 ≤ 5) ∧ (0 ≤ g 3 k 0 0 ∧ g 3 k 0 0 ≤ g 2 k 0 0) ∧ (1 ≤ g 3 k 0 1 ∧ g 3 k 0 1 ≤ 9) ∧ (g 3 k 0 2 = 0 ∨ g 3 k 0 2 = 1) ∧ (0 ≤ g 1 k 0 0 ∧ g 1 k 0 0 ≤ 100000) ∧ (0 ≤ g 1 k 0 2 ∧ g 1 k 0 2 ≤ 24) ∧ (∀ j, 0 ≤ j → j < 4 → 0 ≤ g 6 k j 0 ∧ g 6 k j 0 ≤ g 2 k 0 0) ∧ (∀ i, 0 ≤ i → i < 24 → 0 ≤ g 5 k 0 i ∧ g 5 k 0 i < 24) ∧ (∀ i j, 0 ≤ i → i < 24 → 0 ≤ j → j < 24 → g 5 k 0 i = g 5 k 0 j → i = j) ∧ (∀ i, 0 ≤ i → i < g 1 k 0 2 → okE g k d (g 5 k 0 i)) ∧ (∀ i j, 0 ≤ i → i ≤ j → j < g 1 k 0 2 → g 7 k (g 5 k 0 i) 3 ≤ g 7 k (g 5 k 0 j) 3)
/-- turns of an echo: from the place p, of the wall w -/
def dly (a s1 s2 p w : Int) : Int := max ((2 * (if w = 0 then p else a - p) + s1 - 1) / s1 + s2) 1
theorem dly_in {a s1 s2 p w : Int} (ha : a ≤ 40) (h1 : 1 ≤ s1 ∧ s1 ≤ 9) (h2 : 0 ≤ s2 ∧ s2 ≤ 5) (hp : 0 ≤ p ∧ p ≤ a) : 1 ≤ dly a s1 s2 p w ∧ dly a s1 s2 p w ≤ 100 := by
  unfold dly
  have hd : 0 ≤ (if w = 0 then p else a - p) ∧ (if w = 0 then p else a - p) ≤ 40 := by split <;> omega
  generalize (if w = 0 then p else a - p) = d at hd
  have h3 : (2 * d + s1 - 1) / s1 ≤ 2 * d + s1 - 1 := Int.ediv_le_self _ (by omega)
  omega
def eT (g : St) (k p w : Int) : Int := dly (g 2 k 0 0) (g 2 k 0 1) (g 2 k 0 2) p w
theorem eT_in {g : St} {k d p w : Int} (h : wf g k d) (hp : 0 ≤ p ∧ p ≤ g 2 k 0 0) : 1 ≤ eT g k p w ∧ eT g k p w ≤ 100 := dly_in h.1.2 h.2.1 h.2.2.1 hp
/-- the field q of the echo that stands at the place i -/
def eF (g : St) (k i q : Int) : Int := g 7 k (g 5 k 0 i) q
def pOf (g : St) (k p : Int) : Int → Bool := fun i => decide (g 7 k (g 5 k 0 i) 0 = p)
def pDue (g : St) (k p t : Int) : Int → Bool := fun i => decide (g 7 k (g 5 k 0 i) 1 = p ∧ g 7 k (g 5 k 0 i) 3 = t)
def pCl (g : St) (k r : Int) : Int → Bool := fun i => decide (i ≠ r ∧ g 7 k (g 5 k 0 i) 1 = g 7 k (g 5 k 0 r) 1 ∧ g 7 k (g 5 k 0 i) 3 = g 7 k (g 5 k 0 r) 3)
/-- how many echoes of a player; whether one comes to a place at a clock; whether that of the rank r clashes -/
abbrev eOf (g : St) (k p : Int) : Int := cn (pOf g k p) (g 1 k 0 2).toNat
abbrev eDue (g : St) (k p t : Int) : Prop := 0 < cn (pDue g k p t) (g 1 k 0 2).toNat
abbrev eCl (g : St) (k r : Int) : Prop := 0 < cn (pCl g k r) (g 1 k 0 2).toNat
/-- the ball comes to the place p in t turns, and no echo with it -/
abbrev mB (g : St) (k p t : Int) : Prop := unf (g 3 k 0 0) (g 3 k 0 1) (g 3 k 0 2) t (g 2 k 0 0) = p ∧ ¬ eDue g k p (g 1 k 0 0 + t)
def pW (g : St) (k p : Int) : Int → Bool := fun w => decide (mB g k p (w + eT g k p 0) ∨ mB g k p (w + eT g k p 1))
/-- a property of a player -/
def plN (g : St) (k p w : Int) : Int := if w = 0 then g 6 k p 0 else if w = 1 then g 6 k p 1 else if w = 2 then g 6 k p 2 else if w = 3 then eOf g k p else if w = 4 then g 6 k p 3 else if w = 5 then g 6 k p 4 else g 6 k p 5
abbrev smN (g : St) (k w : Int) : Int := plN g k 0 w + plN g k 1 w + plN g k 2 w + plN g k 3 w
/-- the better one of two players, the best of four -/
def btr (g : St) (k a b : Int) : Int := if g 6 k b 1 < g 6 k a 1 ∨ (g 6 k a 1 = g 6 k b 1 ∧ g 6 k b 3 < g 6 k a 3) then a else b
def bst (g : St) (k : Int) : Int := btr g k 3 (btr g k 2 (btr g k 1 0))
def ecN (g : St) (k r w : Int) : Int := if r < 0 ∨ g 1 k 0 2 ≤ r then -1 else if w = 0 then eF g k r 0 else if w = 1 then eF g k r 1 else if w = 2 then eF g k r 2 else if w = 3 then eF g k r 3 - g 1 k 0 0 else if w = 4 then eF g k r 4 else if eCl g k r then 1 else 0
def nbN (g : St) (k w : Int) : Int := if w = 0 then g 1 k 0 0 else if w = 1 then g 3 k 0 0 else if w = 2 then g 3 k 0 1 else if w = 3 then g 3 k 0 2 else if w = 4 then g 1 k 0 2 else if w = 5 then 2 * smN g k 2 else if w = 6 then smN g k 4 else if w = 7 then smN g k 5 else if w = 8 then smN g k 6 else if w = 9 then smN g k 1 else g 1 k 0 1
/-- the counters are small numbers -/
def ctr (g : St) (k : Int) : Prop := ∀ j q : Int, 0 ≤ j → j < 4 → 1 ≤ q → q ≤ 5 → 0 ≤ g 6 k j q ∧ g 6 k j q ≤ 1000000
theorem unf_in {p s r t a : Int} (ha : 8 ≤ a ∧ a ≤ 40) : 0 ≤ unf p s r t a ∧ unf p s r t a ≤ 100 := by
  unfold unf
  have h1 := emod_in (x := 2 * a - p + s * t) (b := 2 * a) (by omega)
  have h2 := emod_in (x := p + s * t) (b := 2 * a) (by omega)
  by_cases hr : r = 0
  · simp only [hr, if_true]; split <;> omega
  · simp only [hr, if_false]; split <;> omega

theorem cw_RX1_73 : CW RX1 73 RX1 yX1_lastPlace cX1_lastPlace 1 (some .int) 0 := ⟨u_5_8, u_5_9, u_5_10, u_1_12, u_5_11, by decide +kernel⟩
theorem cw_RX1_91 : CW RX1 91 RX1 yX1_echoTime cX1_echoTime 6 (some .int) 2 := ⟨u_5_0, u_5_1, u_5_2, u_1_12, u_5_3, by decide +kernel⟩
theorem cw_RX1_136 : CW RX1 136 RX2 yX2_comesTo cX2_comesTo 3 (some .boolean) 2 := ⟨u_6_4, u_6_5, u_6_6, u_2_19, u_6_7, by decide +kernel⟩
theorem cw_RX1_140 : CW RX1 140 RX1 yX1_isEchoDue cX1_isEchoDue 4 (some .boolean) 2 := ⟨u_5_22, u_5_23, u_6_0, u_1_12, u_6_1, by decide +kernel⟩
theorem cw_RX1_146 : CW RX1 146 RX0 yX0_unfoldedPlaceIn cX0_unfoldedPlaceIn 6 (some .int) 2 := ⟨u_5_16, u_5_17, u_5_18, u_2_3, u_5_19, by decide +kernel⟩
set_option maxHeartbeats 4000000 in
set_option maxRecDepth 100000 in
theorem ct_X1_lastPlace (l : Launch) (L : Lay) (g : St) (k : Int) (hk : 0 ≤ k ∧ k < 9) : Met l yX1_lastPlace (.code yX1_lastPlace cX1_lastPlace 1 (some .int) :: wsL_law) { frames := 0, cells := 0, slots := 0, locals := 0 } (va_Pc [.ref (adr L 1 k 0)] (HS L g)) (va_Qi (fun (r9 : Int32) (u9 : St) => r9 = iI (g 2 k 0 0) ∧ u9 = g) (fun u t => HS L u t) (Af L)) 0 0 (Af L) := by
  refine ct_mk (by decide +kernel) (Nat.le_of_ble_eq_true rfl) ?_
  intro pp ee ss mm bel mth cx C hr hlk
  show V pp l ee { frames := 0, cells := 0, slots := 0, locals := 0 } ss mm ([.ref (adr L 1 k 0)]).toArray bel mth cx 1 L (HH L g) 0 0 _ 0 [(0, .ref (adr L 1 k 0))] []
  refine v_aload_n (pc := 0) C 0 rfl rfl dX1_lastPlace_0 ?_
  refine gt_1_3 (pc := 1) C ⟨by (first | assumption | omega | (simp [bl, up] <;> omega)), by (first | assumption | omega | (simp [bl, up] <;> omega))⟩ u_2_9 dX1_lastPlace_1 ?_
  refine v_iconst (pc := 4) C dX1_lastPlace_4 ?_
  refine al_2 (pc := 5) C ⟨by (first | assumption | omega | (simp [bl, up] <;> omega)), by (first | assumption | omega | (simp [bl, up] <;> omega))⟩ ⟨by (first | assumption | omega | (simp [bl, up] <;> omega)), by (first | assumption | omega | (simp [bl, up] <;> omega))⟩ dX1_lastPlace_5 (g 2 k 0 0) (rfl) ?_
  exact v_iret (pc := 6) C hr hlk (⟨rfl, rfl⟩) dX1_lastPlace_6
set_option maxHeartbeats 4000000 in
set_option maxRecDepth 100000 in
theorem ct_X1_hasTimeFor (l : Launch) (L : Lay) (g : St) (k t : Int) (hk : 0 ≤ k ∧ k < 9) (hc : 0 ≤ g 1 k 0 0 ∧ g 1 k 0 0 ≤ 100000) (ht : -1000 ≤ t ∧ t ≤ 1000) : Met l yX1_hasTimeFor (.code yX1_hasTimeFor cX1_hasTimeFor 2 (some .boolean) :: wsL_law) { frames := 0, cells := 0, slots := 0, locals := 0 } (va_Pc [.ref (adr L 1 k 0), .int (iI t)] (HS L g)) (va_Qi (fun (r9 : Int32) (u9 : St) => r9 = iI (if g 1 k 0 0 + t ≤ 99999 then 1 else 0) ∧ u9 = g) (fun u t => HS L u t) (Af L)) 0 0 (Af L) := by
  refine ct_mk (by decide +kernel) (Nat.le_of_ble_eq_true rfl) ?_
  intro pp ee ss mm bel mth cx C hr hlk
  show V pp l ee { frames := 0, cells := 0, slots := 0, locals := 0 } ss mm ([.ref (adr L 1 k 0), .int (iI t)]).toArray bel mth cx 2 L (HH L g) 0 0 _ 0 [(0, .ref (adr L 1 k 0)), (1, .int (iI t))] []
  refine v_aload_n (pc := 0) C 0 rfl rfl dX1_hasTimeFor_0 ?_
  refine gt_1_0 (pc := 1) C ⟨by (first | assumption | omega | (simp [bl, up] <;> omega)), by (first | assumption | omega | (simp [bl, up] <;> omega))⟩ u_6_3 dX1_hasTimeFor_1 (g 1 k 0 0) (rfl) ?_
  refine v_iload_n (pc := 4) C 1 rfl rfl dX1_hasTimeFor_4 ?_
  refine v_iadd (pc := 5) C dX1_hasTimeFor_5 ?_
  refine v_ldc (pc := 6) (z := 99999) C (by decide +kernel) u_14_15 dX1_hasTimeFor_6 ?_
  refine v_icmp_gt (pc := 8) C 15 ⟨by (first | assumption | omega | (simp [bl, up] <;> omega)), by (first | assumption | omega | (simp [bl, up] <;> omega))⟩ ⟨by (first | assumption | omega | (simp [bl, up] <;> omega)), by (first | assumption | omega | (simp [bl, up] <;> omega))⟩ (by decide) dX1_hasTimeFor_8 (fun h8 => ?_) (fun h8 => ?_)
  · skip
    refine v_iconst (pc := 15) C dX1_hasTimeFor_15 ?_
    exact v_zret (pc := 16) C hr hlk (by first | assumption | omega | (simp [bl, up] <;> omega)) (⟨congrArg iI (by grind), rfl⟩) dX1_hasTimeFor_16
  · skip
    refine v_iconst (pc := 11) C dX1_hasTimeFor_11 ?_
    refine v_goto (pc := 12) C 16 (by decide) dX1_hasTimeFor_12 ?_
    exact v_zret (pc := 16) C hr hlk (by first | assumption | omega | (simp [bl, up] <;> omega)) (⟨congrArg iI (by grind), rfl⟩) dX1_hasTimeFor_16
set_option maxHeartbeats 4000000 in
set_option maxRecDepth 100000 in
theorem ct_X1_echoTime (l : Launch) (L : Lay) (g : St) (k p w : Int) (hk : 0 ≤ k ∧ k < 9) (hS0 : 8 ≤ g 2 k 0 0 ∧ g 2 k 0 0 ≤ 40) (hS1 : 1 ≤ g 2 k 0 1 ∧ g 2 k 0 1 ≤ 9) (hS2 : 0 ≤ g 2 k 0 2 ∧ g 2 k 0 2 ≤ 5) (hp : 0 ≤ p ∧ p ≤ g 2 k 0 0) (hw : 0 ≤ w ∧ w ≤ 1) : Met l yX1_echoTime (.code yX1_echoTime cX1_echoTime 6 (some .int) :: wsL_law) { frames := 1, cells := 0, slots := 0, locals := 21 } (va_Pc [.ref (adr L 1 k 0), .int (iI p), .int (iI w)] (HS L g)) (va_Qi (fun (r9 : Int32) (u9 : St) => r9 = iI (eT g k p w) ∧ u9 = g) (fun u t => HS L u t) (Af L)) 0 0 (Af L) := by
  refine ct_mk (by decide +kernel) (Nat.le_of_ble_eq_true rfl) ?_
  intro pp ee ss mm bel mth cx C hr hlk
  show V pp l ee { frames := 1, cells := 0, slots := 0, locals := 21 } ss mm ([.ref (adr L 1 k 0), .int (iI p), .int (iI w)]).toArray bel mth cx 6 L (HH L g) 0 0 _ 0 [(0, .ref (adr L 1 k 0)), (1, .int (iI p)), (2, .int (iI w))] []
  refine v_iload_n (pc := 0) C 2 rfl rfl dX1_echoTime_0 ?_
  refine v_if_ne (pc := 1) C 8 ⟨by (first | assumption | omega | (simp [bl, up] <;> omega)), by (first | assumption | omega | (simp [bl, up] <;> omega))⟩ (by decide) dX1_echoTime_1 (fun h1 => ?_) (fun h1 => ?_)
  · skip
    refine v_aload_n (pc := 8) C 0 rfl rfl dX1_echoTime_8 ?_
    refine v_calliV (pc := 9) C cw_RX1_73 (rcv_1 ⟨by (first | assumption | omega | (simp [bl, up] <;> omega)), by (first | assumption | omega | (simp [bl, up] <;> omega))⟩) (ct_X1_lastPlace l L g k (by first | assumption | omega | (simp [bl, up] <;> omega))) ⟨Nat.le_of_ble_eq_true rfl, Nat.le_of_ble_eq_true rfl⟩ rfl (Nat.le_of_ble_eq_true rfl) ⟨Nat.le_of_ble_eq_true rfl, Nat.le_of_ble_eq_true rfl⟩ rfl dX1_echoTime_9 (fun r9 u9 hP_1 => ?_)
    obtain ⟨hP_1, hP_1b⟩ := hP_1
    rw [hP_1, hP_1b]
    clear hP_1 hP_1b r9 u9
    refine v_iload_n (pc := 12) C 1 rfl rfl dX1_echoTime_12 ?_
    refine v_isub (pc := 13) C dX1_echoTime_13 ?_
    refine v_istore_n (pc := 14) C [(3, .int (iI ((g 2 k 0 0) - p))), (0, .ref (adr L 1 k 0)), (1, .int (iI p)), (2, .int (iI w))] rfl (by decide) rfl dX1_echoTime_14 ?_
    refine v_aload_n (pc := 15) C 1 rfl rfl dX1_echoTime_15 ?_
    refine gt_1_3 (pc := 16) C ⟨by (first | assumption | omega | (simp [bl, up] <;> omega)), by (first | assumption | omega | (simp [bl, up] <;> omega))⟩ u_2_9 dX1_echoTime_16 ?_
    refine v_iconst (pc := 19) C dX1_echoTime_19 ?_
    refine al_2 (pc := 20) C ⟨by (first | assumption | omega | (simp [bl, up] <;> omega)), by (first | assumption | omega | (simp [bl, up] <;> omega))⟩ ⟨by (first | assumption | omega | (simp [bl, up] <;> omega)), by (first | assumption | omega | (simp [bl, up] <;> omega))⟩ dX1_echoTime_20 (g 2 k 0 1) (rfl) ?_
    refine v_iconst (pc := 21) C dX1_echoTime_21 ?_
    refine v_max (pc := 22) C ⟨by (first | assumption | omega | (simp [bl, up] <;> omega)), by (first | assumption | omega | (simp [bl, up] <;> omega))⟩ ⟨by (first | assumption | omega | (simp [bl, up] <;> omega)), by (first | assumption | omega | (simp [bl, up] <;> omega))⟩ (z := g 2 k 0 1) (by split <;> omega) u_5_4 u_5_5 u_5_6 u_5_7 (by decide) (Nat.le_of_ble_eq_true rfl) (by decide) (by decide) dX1_echoTime_22 ?_
    refine v_istore (pc := 25) C [(4, .int (iI (g 2 k 0 1))), (3, .int (iI ((g 2 k 0 0) - p))), (0, .ref (adr L 1 k 0)), (1, .int (iI p)), (2, .int (iI w))] (by decide) rfl dX1_echoTime_25 ?_
    refine v_iconst (pc := 27) C dX1_echoTime_27 ?_
    refine v_iload_n (pc := 28) C 1 rfl rfl dX1_echoTime_28 ?_
    refine v_imul (pc := 29) C dX1_echoTime_29 ?_
    refine v_iload (pc := 30) C 0 rfl dX1_echoTime_30 ?_
    refine v_iadd (pc := 32) C dX1_echoTime_32 ?_
    refine v_iconst (pc := 33) C dX1_echoTime_33 ?_
    refine v_isub (pc := 34) C dX1_echoTime_34 ?_
    refine v_iload (pc := 35) C 0 rfl dX1_echoTime_35 ?_
    refine v_idiv (pc := 37) C (⟨⟨by (first | assumption | omega | (simp [bl, up] <;> omega)), by (first | assumption | omega | (simp [bl, up] <;> omega))⟩, ⟨by (first | assumption | omega | (simp [bl, up] <;> omega)), by (first | assumption | omega | (simp [bl, up] <;> omega))⟩, by (first | assumption | omega | (simp [bl, up] <;> omega)), by (first | assumption | omega | (simp [bl, up] <;> omega))⟩) dX1_echoTime_37 ?_
    have hq : 0 ≤ (((2 * ((g 2 k 0 0) - p)) + (g 2 k 0 1)) - 1) / (g 2 k 0 1) ∧ (((2 * ((g 2 k 0 0) - p)) + (g 2 k 0 1)) - 1) / (g 2 k 0 1) ≤ 90 := ⟨Int.ediv_nonneg (by omega) (by omega), Int.le_trans (Int.ediv_le_self _ (by omega)) (by omega)⟩
    refine v_istore (pc := 38) C [(5, .int (iI ((((2 * ((g 2 k 0 0) - p)) + (g 2 k 0 1)) - 1) / (g 2 k 0 1)))), (4, .int (iI (g 2 k 0 1))), (3, .int (iI ((g 2 k 0 0) - p))), (0, .ref (adr L 1 k 0)), (1, .int (iI p)), (2, .int (iI w))] (by decide) rfl dX1_echoTime_38 ?_
    refine v_iload (pc := 40) C 0 rfl dX1_echoTime_40 ?_
    refine v_aload_n (pc := 42) C 3 rfl rfl dX1_echoTime_42 ?_
    refine gt_1_3 (pc := 43) C ⟨by (first | assumption | omega | (simp [bl, up] <;> omega)), by (first | assumption | omega | (simp [bl, up] <;> omega))⟩ u_2_9 dX1_echoTime_43 ?_
    refine v_iconst (pc := 46) C dX1_echoTime_46 ?_
    refine al_2 (pc := 47) C ⟨by (first | assumption | omega | (simp [bl, up] <;> omega)), by (first | assumption | omega | (simp [bl, up] <;> omega))⟩ ⟨by (first | assumption | omega | (simp [bl, up] <;> omega)), by (first | assumption | omega | (simp [bl, up] <;> omega))⟩ dX1_echoTime_47 (g 2 k 0 2) (rfl) ?_
    refine v_iadd (pc := 48) C dX1_echoTime_48 ?_
    refine v_iconst (pc := 49) C dX1_echoTime_49 ?_
    refine v_max (pc := 50) C ⟨by (first | assumption | omega | (simp [bl, up] <;> omega)), by (first | assumption | omega | (simp [bl, up] <;> omega))⟩ ⟨by (first | assumption | omega | (simp [bl, up] <;> omega)), by (first | assumption | omega | (simp [bl, up] <;> omega))⟩ (z := max (((((2 * ((g 2 k 0 0) - p)) + (g 2 k 0 1)) - 1) / (g 2 k 0 1)) + (g 2 k 0 2)) 1) (by simp only [Int.max_def, Int.min_def]; (repeat' split) <;> omega) u_5_4 u_5_5 u_5_6 u_5_7 (by decide) (Nat.le_of_ble_eq_true rfl) (by decide) (by decide) dX1_echoTime_50 ?_
    exact v_iret (pc := 53) C hr hlk (⟨congrArg iI (by unfold eT dly; first | rw [if_neg h1] | rw [if_pos (by omega)]), rfl⟩) dX1_echoTime_53
  · skip
    refine v_iload_n (pc := 4) C 1 rfl rfl dX1_echoTime_4 ?_
    refine v_goto (pc := 5) C 14 (by decide) dX1_echoTime_5 ?_
    refine v_istore_n (pc := 14) C [(3, .int (iI p)), (0, .ref (adr L 1 k 0)), (1, .int (iI p)), (2, .int (iI w))] rfl (by decide) rfl dX1_echoTime_14 ?_
    refine v_aload_n (pc := 15) C 1 rfl rfl dX1_echoTime_15 ?_
    refine gt_1_3 (pc := 16) C ⟨by (first | assumption | omega | (simp [bl, up] <;> omega)), by (first | assumption | omega | (simp [bl, up] <;> omega))⟩ u_2_9 dX1_echoTime_16 ?_
    refine v_iconst (pc := 19) C dX1_echoTime_19 ?_
    refine al_2 (pc := 20) C ⟨by (first | assumption | omega | (simp [bl, up] <;> omega)), by (first | assumption | omega | (simp [bl, up] <;> omega))⟩ ⟨by (first | assumption | omega | (simp [bl, up] <;> omega)), by (first | assumption | omega | (simp [bl, up] <;> omega))⟩ dX1_echoTime_20 (g 2 k 0 1) (rfl) ?_
    refine v_iconst (pc := 21) C dX1_echoTime_21 ?_
    refine v_max (pc := 22) C ⟨by (first | assumption | omega | (simp [bl, up] <;> omega)), by (first | assumption | omega | (simp [bl, up] <;> omega))⟩ ⟨by (first | assumption | omega | (simp [bl, up] <;> omega)), by (first | assumption | omega | (simp [bl, up] <;> omega))⟩ (z := g 2 k 0 1) (by split <;> omega) u_5_4 u_5_5 u_5_6 u_5_7 (by decide) (Nat.le_of_ble_eq_true rfl) (by decide) (by decide) dX1_echoTime_22 ?_
    refine v_istore (pc := 25) C [(4, .int (iI (g 2 k 0 1))), (3, .int (iI p)), (0, .ref (adr L 1 k 0)), (1, .int (iI p)), (2, .int (iI w))] (by decide) rfl dX1_echoTime_25 ?_
    refine v_iconst (pc := 27) C dX1_echoTime_27 ?_
    refine v_iload_n (pc := 28) C 1 rfl rfl dX1_echoTime_28 ?_
    refine v_imul (pc := 29) C dX1_echoTime_29 ?_
    refine v_iload (pc := 30) C 0 rfl dX1_echoTime_30 ?_
    refine v_iadd (pc := 32) C dX1_echoTime_32 ?_
    refine v_iconst (pc := 33) C dX1_echoTime_33 ?_
    refine v_isub (pc := 34) C dX1_echoTime_34 ?_
    refine v_iload (pc := 35) C 0 rfl dX1_echoTime_35 ?_
    refine v_idiv (pc := 37) C (⟨⟨by (first | assumption | omega | (simp [bl, up] <;> omega)), by (first | assumption | omega | (simp [bl, up] <;> omega))⟩, ⟨by (first | assumption | omega | (simp [bl, up] <;> omega)), by (first | assumption | omega | (simp [bl, up] <;> omega))⟩, by (first | assumption | omega | (simp [bl, up] <;> omega)), by (first | assumption | omega | (simp [bl, up] <;> omega))⟩) dX1_echoTime_37 ?_
    have hq : 0 ≤ (((2 * p) + (g 2 k 0 1)) - 1) / (g 2 k 0 1) ∧ (((2 * p) + (g 2 k 0 1)) - 1) / (g 2 k 0 1) ≤ 90 := ⟨Int.ediv_nonneg (by omega) (by omega), Int.le_trans (Int.ediv_le_self _ (by omega)) (by omega)⟩
    refine v_istore (pc := 38) C [(5, .int (iI ((((2 * p) + (g 2 k 0 1)) - 1) / (g 2 k 0 1)))), (4, .int (iI (g 2 k 0 1))), (3, .int (iI p)), (0, .ref (adr L 1 k 0)), (1, .int (iI p)), (2, .int (iI w))] (by decide) rfl dX1_echoTime_38 ?_
    refine v_iload (pc := 40) C 0 rfl dX1_echoTime_40 ?_
    refine v_aload_n (pc := 42) C 3 rfl rfl dX1_echoTime_42 ?_
    refine gt_1_3 (pc := 43) C ⟨by (first | assumption | omega | (simp [bl, up] <;> omega)), by (first | assumption | omega | (simp [bl, up] <;> omega))⟩ u_2_9 dX1_echoTime_43 ?_
    refine v_iconst (pc := 46) C dX1_echoTime_46 ?_
    refine al_2 (pc := 47) C ⟨by (first | assumption | omega | (simp [bl, up] <;> omega)), by (first | assumption | omega | (simp [bl, up] <;> omega))⟩ ⟨by (first | assumption | omega | (simp [bl, up] <;> omega)), by (first | assumption | omega | (simp [bl, up] <;> omega))⟩ dX1_echoTime_47 (g 2 k 0 2) (rfl) ?_
    refine v_iadd (pc := 48) C dX1_echoTime_48 ?_
    refine v_iconst (pc := 49) C dX1_echoTime_49 ?_
    refine v_max (pc := 50) C ⟨by (first | assumption | omega | (simp [bl, up] <;> omega)), by (first | assumption | omega | (simp [bl, up] <;> omega))⟩ ⟨by (first | assumption | omega | (simp [bl, up] <;> omega)), by (first | assumption | omega | (simp [bl, up] <;> omega))⟩ (z := max (((((2 * p) + (g 2 k 0 1)) - 1) / (g 2 k 0 1)) + (g 2 k 0 2)) 1) (by simp only [Int.max_def, Int.min_def]; (repeat' split) <;> omega) u_5_4 u_5_5 u_5_6 u_5_7 (by decide) (Nat.le_of_ble_eq_true rfl) (by decide) (by decide) dX1_echoTime_50 ?_
    exact v_iret (pc := 53) C hr hlk (⟨congrArg iI (by unfold eT dly; first | rw [if_neg h1] | rw [if_pos (by omega)]), rfl⟩) dX1_echoTime_53
set_option maxHeartbeats 4000000 in
set_option maxRecDepth 100000 in
theorem ct_X1_echoesOf (l : Launch) (L : Lay) (g : St) (k d p : Int) (hk : 0 ≤ k ∧ k < 9) (hw : wf g k d) (hd : 0 ≤ d ∧ d ≤ 1) (hp : 0 ≤ p ∧ p < 4) : Met l yX1_echoesOf (.code yX1_echoesOf cX1_echoesOf 4 (some .int) :: wsL_law) { frames := 0, cells := 0, slots := 0, locals := 0 } (va_Pc [.ref (adr L 1 k 0), .int (iI p)] (HS L g)) (va_Qi (fun (r9 : Int32) (u9 : St) => r9 = iI (eOf g k p) ∧ u9 = g) (fun u t => HS L u t) (Af L)) 0 0 (Af L) := by
  refine ct_mk (by decide +kernel) (Nat.le_of_ble_eq_true rfl) ?_
  intro pp ee ss mm bel mth cx C hr hlk
  show V pp l ee { frames := 0, cells := 0, slots := 0, locals := 0 } ss mm ([.ref (adr L 1 k 0), .int (iI p)]).toArray bel mth cx 4 L (HH L g) 0 0 _ 0 [(0, .ref (adr L 1 k 0)), (1, .int (iI p))] []
  obtain ⟨hS0, hS1, hS2, hB0, hB1, hB2, hCl, hN, hPl, hPm, hPj, hEc, hSo⟩ := id hw
  refine v_iconst (pc := 0) C dX1_echoesOf_0 ?_
  refine v_istore_n (pc := 1) C [(2, .int (iI 0)), (0, .ref (adr L 1 k 0)), (1, .int (iI p))] rfl (by decide) rfl dX1_echoesOf_1 ?_
  refine v_iconst (pc := 2) C dX1_echoesOf_2 ?_
  refine v_istore_n (pc := 3) C [(3, .int (iI 0)), (2, .int (iI 0)), (0, .ref (adr L 1 k 0)), (1, .int (iI p))] rfl (by decide) rfl dX1_echoesOf_3 ?_
  have lb4 : ∀ (n9 : Nat) (i : Int) (c : Int), (0 ≤ i ∧ i ≤ g 1 k 0 2) → (c = cn (pOf g k p) i.toNat) → (g 1 k 0 2 - i).toNat < n9 → V pp l ee { frames := 0, cells := 0, slots := 0, locals := 0 } ss mm ([.ref (adr L 1 k 0), .int (iI p)]).toArray bel mth cx 4 L (HH L g) 0 0 (MQ bel (va_Qi (fun (r9 : Int32) (u9 : St) => r9 = iI (eOf g k p) ∧ u9 = g) (fun u t => HS L u t) (Af L)) ([.ref (adr L 1 k 0), .int (iI p)]).toArray ss 0 0 (Af L)) 4 [(0, .ref (adr L 1 k 0)), (1, .int (iI p)), (2, .int (iI c)), (3, .int (iI i))] [] := by
    intro n9
    induction n9 with
    | zero => intro i c hi hc hm9; exact absurd hm9 (Nat.not_lt_zero _)
    | succ n9 ih9 =>
      intro i c hi hc hm9
      have ih4 := ih9
      refine v_iload_n (pc := 4) C 3 rfl rfl dX1_echoesOf_4 ?_
      refine v_aload_n (pc := 5) C 0 rfl rfl dX1_echoesOf_5 ?_
      refine gt_1_2 (pc := 6) C ⟨by (first | assumption | omega | (simp [bl, up] <;> omega)), by (first | assumption | omega | (simp [bl, up] <;> omega))⟩ u_6_2 dX1_echoesOf_6 (g 1 k 0 2) (rfl) ?_
      refine v_icmp_ge (pc := 9) C 34 ⟨by (first | assumption | omega | (simp [bl, up] <;> omega)), by (first | assumption | omega | (simp [bl, up] <;> omega))⟩ ⟨by (first | assumption | omega | (simp [bl, up] <;> omega)), by (first | assumption | omega | (simp [bl, up] <;> omega))⟩ (by decide) dX1_echoesOf_9 (fun h9 => ?_) (fun h9 => ?_)
      · skip
        refine v_iload_n (pc := 34) C 2 rfl rfl dX1_echoesOf_34 ?_
        exact v_iret (pc := 35) C hr hlk (⟨congrArg iI (by rw [hc, show i = g 1 k 0 2 by omega]), rfl⟩) dX1_echoesOf_35
      · skip
        refine v_aload_n (pc := 12) C 0 rfl rfl dX1_echoesOf_12 ?_
        refine gt_1_6 (pc := 13) C ⟨by (first | assumption | omega | (simp [bl, up] <;> omega)), by (first | assumption | omega | (simp [bl, up] <;> omega))⟩ u_2_15 dX1_echoesOf_13 ?_
        refine v_iload_n (pc := 16) C 3 rfl rfl dX1_echoesOf_16 ?_
        refine al_5 (pc := 17) C ⟨by (first | assumption | omega | (simp [bl, up] <;> omega)), by (first | assumption | omega | (simp [bl, up] <;> omega))⟩ ⟨by (first | assumption | omega | (simp [bl, up] <;> omega)), by (first | assumption | omega | (simp [bl, up] <;> omega))⟩ dX1_echoesOf_17 (g 5 k 0 i) (rfl) ?_
        have hp17 := hPm i (by first | assumption | omega | (simp [bl, up] <;> omega)) (by first | assumption | omega | (simp [bl, up] <;> omega))
        have he17 := hEc i (by first | assumption | omega | (simp [bl, up] <;> omega)) (by first | assumption | omega | (simp [bl, up] <;> omega))
        unfold okE at he17
        refine gt_7_0 (pc := 18) C ⟨⟨by (first | assumption | omega | (simp [bl, up] <;> omega)), by (first | assumption | omega | (simp [bl, up] <;> omega))⟩, ⟨by (first | assumption | omega | (simp [bl, up] <;> omega)), by (first | assumption | omega | (simp [bl, up] <;> omega))⟩⟩ u_8_13 dX1_echoesOf_18 (g 7 k (g 5 k 0 i) 0) (rfl) ?_
        refine v_iload_n (pc := 21) C 1 rfl rfl dX1_echoesOf_21 ?_
        refine v_icmp_ne (pc := 22) C 28 ⟨by (first | assumption | omega | (simp [bl, up] <;> omega)), by (first | assumption | omega | (simp [bl, up] <;> omega))⟩ ⟨by (first | assumption | omega | (simp [bl, up] <;> omega)), by (first | assumption | omega | (simp [bl, up] <;> omega))⟩ (by decide) dX1_echoesOf_22 (fun h22 => ?_) (fun h22 => ?_)
        · skip
          refine v_iinc (pc := 28) C 3 [(3, .int (iI (i + 1))), (0, .ref (adr L 1 k 0)), (1, .int (iI p)), (2, .int (iI c))] rfl (by decide) rfl dX1_echoesOf_28 ?_
          refine v_goto (pc := 31) C 4 (by decide) dX1_echoesOf_31 ?_
          refine v_lsub [1, 2, 3, 0] rfl ?_
          exact ih4 (i + 1) c (by omega) (by rw [cn_s hi.1]; simp only [pOf, decide_eq_true_eq]; split <;> omega) (by omega)
        · skip
          refine v_iinc (pc := 25) C 2 [(2, .int (iI (c + 1))), (0, .ref (adr L 1 k 0)), (1, .int (iI p)), (3, .int (iI i))] rfl (by decide) rfl dX1_echoesOf_25 ?_
          refine v_iinc (pc := 28) C 3 [(3, .int (iI (i + 1))), (2, .int (iI (c + 1))), (0, .ref (adr L 1 k 0)), (1, .int (iI p))] rfl (by decide) rfl dX1_echoesOf_28 ?_
          refine v_goto (pc := 31) C 4 (by decide) dX1_echoesOf_31 ?_
          refine v_lsub [2, 3, 1, 0] rfl ?_
          exact ih4 (i + 1) (c + 1) (by omega) (by rw [cn_s hi.1]; simp only [pOf, decide_eq_true_eq]; split <;> omega) (by omega)
  refine v_lsub [2, 3, 1, 0] rfl ?_
  exact lb4 _ 0 0 (by omega) (by rfl) (Nat.lt_succ_self _)
set_option maxHeartbeats 4000000 in
set_option maxRecDepth 100000 in
theorem ct_X1_isEchoDue (l : Launch) (L : Lay) (g : St) (k d p t : Int) (hk : 0 ≤ k ∧ k < 9) (hw : wf g k d) (hd : 0 ≤ d ∧ d ≤ 1) (hp : 0 ≤ p ∧ p ≤ 100) (ht : 0 ≤ t ∧ t ≤ 1000) : Met l yX1_isEchoDue (.code yX1_isEchoDue cX1_isEchoDue 4 (some .boolean) :: wsL_law) { frames := 1, cells := 0, slots := 0, locals := 22 } (va_Pc [.ref (adr L 1 k 0), .int (iI p), .int (iI t)] (HS L g)) (va_Qi (fun (r9 : Int32) (u9 : St) => r9 = iI (if eDue g k p (g 1 k 0 0 + t) then 1 else 0) ∧ u9 = g) (fun u t => HS L u t) (Af L)) 0 0 (Af L) := by
  refine ct_mk (by decide +kernel) (Nat.le_of_ble_eq_true rfl) ?_
  intro pp ee ss mm bel mth cx C hr hlk
  show V pp l ee { frames := 1, cells := 0, slots := 0, locals := 22 } ss mm ([.ref (adr L 1 k 0), .int (iI p), .int (iI t)]).toArray bel mth cx 4 L (HH L g) 0 0 _ 0 [(0, .ref (adr L 1 k 0)), (1, .int (iI p)), (2, .int (iI t))] []
  obtain ⟨hS0, hS1, hS2, hB0, hB1, hB2, hCl, hN, hPl, hPm, hPj, hEc, hSo⟩ := id hw
  refine v_iconst (pc := 0) C dX1_isEchoDue_0 ?_
  refine v_istore_n (pc := 1) C [(3, .int (iI 0)), (0, .ref (adr L 1 k 0)), (1, .int (iI p)), (2, .int (iI t))] rfl (by decide) rfl dX1_isEchoDue_1 ?_
  have lb2 : ∀ (n9 : Nat) (i : Int), (0 ≤ i ∧ i ≤ g 1 k 0 2) → (cn (pDue g k p (g 1 k 0 0 + t)) i.toNat = 0) → (g 1 k 0 2 - i).toNat < n9 → V pp l ee { frames := 1, cells := 0, slots := 0, locals := 22 } ss mm ([.ref (adr L 1 k 0), .int (iI p), .int (iI t)]).toArray bel mth cx 4 L (HH L g) 0 0 (MQ bel (va_Qi (fun (r9 : Int32) (u9 : St) => r9 = iI (if eDue g k p (g 1 k 0 0 + t) then 1 else 0) ∧ u9 = g) (fun u t => HS L u t) (Af L)) ([.ref (adr L 1 k 0), .int (iI p), .int (iI t)]).toArray ss 0 0 (Af L)) 2 [(0, .ref (adr L 1 k 0)), (1, .int (iI p)), (2, .int (iI t)), (3, .int (iI i))] [] := by
    intro n9
    induction n9 with
    | zero => intro i hi hc hm9; exact absurd hm9 (Nat.not_lt_zero _)
    | succ n9 ih9 =>
      intro i hi hc hm9
      have ih2 := ih9
      refine v_iload_n (pc := 2) C 3 rfl rfl dX1_isEchoDue_2 ?_
      refine v_aload_n (pc := 3) C 0 rfl rfl dX1_isEchoDue_3 ?_
      refine gt_1_2 (pc := 4) C ⟨by (first | assumption | omega | (simp [bl, up] <;> omega)), by (first | assumption | omega | (simp [bl, up] <;> omega))⟩ u_6_2 dX1_isEchoDue_4 (g 1 k 0 2) (rfl) ?_
      refine v_icmp_ge (pc := 7) C 37 ⟨by (first | assumption | omega | (simp [bl, up] <;> omega)), by (first | assumption | omega | (simp [bl, up] <;> omega))⟩ ⟨by (first | assumption | omega | (simp [bl, up] <;> omega)), by (first | assumption | omega | (simp [bl, up] <;> omega))⟩ (by decide) dX1_isEchoDue_7 (fun h7 => ?_) (fun h7 => ?_)
      · skip
        refine v_iconst (pc := 37) C dX1_isEchoDue_37 ?_
        exact v_zret (pc := 38) C hr hlk (by first | assumption | omega | (simp [bl, up] <;> omega)) (⟨congrArg iI (by rw [if_neg]; show ¬ (0 < cn _ (g 1 k 0 2).toNat); rw [show g 1 k 0 2 = i by omega, hc]; decide), rfl⟩) dX1_isEchoDue_38
      · skip
        refine v_aload_n (pc := 10) C 0 rfl rfl dX1_isEchoDue_10 ?_
        refine gt_1_6 (pc := 11) C ⟨by (first | assumption | omega | (simp [bl, up] <;> omega)), by (first | assumption | omega | (simp [bl, up] <;> omega))⟩ u_2_15 dX1_isEchoDue_11 ?_
        refine v_iload_n (pc := 14) C 3 rfl rfl dX1_isEchoDue_14 ?_
        refine al_5 (pc := 15) C ⟨by (first | assumption | omega | (simp [bl, up] <;> omega)), by (first | assumption | omega | (simp [bl, up] <;> omega))⟩ ⟨by (first | assumption | omega | (simp [bl, up] <;> omega)), by (first | assumption | omega | (simp [bl, up] <;> omega))⟩ dX1_isEchoDue_15 (g 5 k 0 i) (rfl) ?_
        have hp15 := hPm i (by first | assumption | omega | (simp [bl, up] <;> omega)) (by first | assumption | omega | (simp [bl, up] <;> omega))
        have he15 := hEc i (by first | assumption | omega | (simp [bl, up] <;> omega)) (by first | assumption | omega | (simp [bl, up] <;> omega))
        unfold okE at he15
        refine v_iload_n (pc := 16) C 1 rfl rfl dX1_isEchoDue_16 ?_
        refine v_aload_n (pc := 17) C 0 rfl rfl dX1_isEchoDue_17 ?_
        refine gt_1_0 (pc := 18) C ⟨by (first | assumption | omega | (simp [bl, up] <;> omega)), by (first | assumption | omega | (simp [bl, up] <;> omega))⟩ u_6_3 dX1_isEchoDue_18 (g 1 k 0 0) (rfl) ?_
        refine v_iload_n (pc := 21) C 2 rfl rfl dX1_isEchoDue_21 ?_
        refine v_iadd (pc := 22) C dX1_isEchoDue_22 ?_
        refine v_calliV (pc := 23) C cw_RX1_136 (rcv_7 ⟨⟨by (first | assumption | omega | (simp [bl, up] <;> omega)), by (first | assumption | omega | (simp [bl, up] <;> omega))⟩, ⟨by (first | assumption | omega | (simp [bl, up] <;> omega)), by (first | assumption | omega | (simp [bl, up] <;> omega))⟩⟩) (ct_X2_comesTo l L g k (g 5 k 0 i) p ((g 1 k 0 0) + t) (by first | assumption | omega | (simp [bl, up] <;> omega)) (by first | assumption | omega | (simp [bl, up] <;> omega)) (by unfold rg; omega) (by unfold rg; omega)) ⟨Nat.le_of_ble_eq_true rfl, Nat.le_of_ble_eq_true rfl⟩ rfl (Nat.le_of_ble_eq_true rfl) ⟨Nat.le_of_ble_eq_true rfl, Nat.le_of_ble_eq_true rfl⟩ rfl dX1_isEchoDue_23 (fun r9 u9 hP_1 => ?_)
        obtain ⟨hP_1, hP_1b⟩ := hP_1
        rw [hP_1, hP_1b]
        clear hP_1 hP_1b r9 u9
        refine v_if_eq (pc := 26) C 31 ⟨by split <;> decide, by split <;> decide⟩ (by decide) dX1_isEchoDue_26 (fun h26 => ?_) (fun h26 => ?_)
        · skip
          refine v_iinc (pc := 31) C 3 [(3, .int (iI (i + 1))), (0, .ref (adr L 1 k 0)), (1, .int (iI p)), (2, .int (iI t))] rfl (by decide) rfl dX1_isEchoDue_31 ?_
          refine v_goto (pc := 34) C 2 (by decide) dX1_isEchoDue_34 ?_
          refine v_lsub [1, 2, 3, 0] rfl ?_
          exact ih2 (i + 1) (by omega) (by rw [cn_s hi.1, hc]; simp only [pDue, decide_eq_true_eq]; grind) (by omega)
        · skip
          refine v_iconst (pc := 29) C dX1_isEchoDue_29 ?_
          exact v_zret (pc := 30) C hr hlk (by first | assumption | omega | (simp [bl, up] <;> omega)) (⟨congrArg iI (by exact (if_pos (cn_pos hi.1 (by omega) (by simp only [pDue, decide_eq_true_eq]; grind))).symm), rfl⟩) dX1_isEchoDue_30
  refine v_lsub [1, 2, 3, 0] rfl ?_
  exact lb2 _ 0 (by omega) (by rfl) (Nat.lt_succ_self _)
set_option maxHeartbeats 4000000 in
set_option maxRecDepth 100000 in
theorem ct_X1_echoClashes (l : Launch) (L : Lay) (g : St) (k d r : Int) (hk : 0 ≤ k ∧ k < 9) (hw : wf g k d) (hd : 0 ≤ d ∧ d ≤ 1) (hr0 : 0 ≤ r ∧ r < g 1 k 0 2) : Met l yX1_echoClashes (.code yX1_echoClashes cX1_echoClashes 4 (some .boolean) :: wsL_law) { frames := 1, cells := 0, slots := 0, locals := 22 } (va_Pc [.ref (adr L 1 k 0), .int (iI r)] (HS L g)) (va_Qi (fun (r9 : Int32) (u9 : St) => r9 = iI (if eCl g k r then 1 else 0) ∧ u9 = g) (fun u t => HS L u t) (Af L)) 0 0 (Af L) := by
  refine ct_mk (by decide +kernel) (Nat.le_of_ble_eq_true rfl) ?_
  intro pp ee ss mm bel mth cx C hr hlk
  show V pp l ee { frames := 1, cells := 0, slots := 0, locals := 22 } ss mm ([.ref (adr L 1 k 0), .int (iI r)]).toArray bel mth cx 4 L (HH L g) 0 0 _ 0 [(0, .ref (adr L 1 k 0)), (1, .int (iI r))] []
  obtain ⟨hS0, hS1, hS2, hB0, hB1, hB2, hCl, hN, hPl, hPm, hPj, hEc, hSo⟩ := id hw
  refine v_aload_n (pc := 0) C 0 rfl rfl dX1_echoClashes_0 ?_
  refine gt_1_6 (pc := 1) C ⟨by (first | assumption | omega | (simp [bl, up] <;> omega)), by (first | assumption | omega | (simp [bl, up] <;> omega))⟩ u_2_15 dX1_echoClashes_1 ?_
  refine v_iload_n (pc := 4) C 1 rfl rfl dX1_echoClashes_4 ?_
  refine al_5 (pc := 5) C ⟨by (first | assumption | omega | (simp [bl, up] <;> omega)), by (first | assumption | omega | (simp [bl, up] <;> omega))⟩ ⟨by (first | assumption | omega | (simp [bl, up] <;> omega)), by (first | assumption | omega | (simp [bl, up] <;> omega))⟩ dX1_echoClashes_5 (g 5 k 0 r) (rfl) ?_
  have hp5 := hPm r (by first | assumption | omega | (simp [bl, up] <;> omega)) (by first | assumption | omega | (simp [bl, up] <;> omega))
  have he5 := hEc r (by first | assumption | omega | (simp [bl, up] <;> omega)) (by first | assumption | omega | (simp [bl, up] <;> omega))
  unfold okE at he5
  refine v_astore_n (pc := 6) C [(2, .ref (adr L 7 k (g 5 k 0 r))), (0, .ref (adr L 1 k 0)), (1, .int (iI r))] rfl (by decide) rfl dX1_echoClashes_6 ?_
  refine v_iconst (pc := 7) C dX1_echoClashes_7 ?_
  refine v_istore_n (pc := 8) C [(3, .int (iI 0)), (2, .ref (adr L 7 k (g 5 k 0 r))), (0, .ref (adr L 1 k 0)), (1, .int (iI r))] rfl (by decide) rfl dX1_echoClashes_8 ?_
  have lb9 : ∀ (n9 : Nat) (i : Int), (0 ≤ i ∧ i ≤ g 1 k 0 2) → (cn (pCl g k r) i.toNat = 0) → (g 1 k 0 2 - i).toNat < n9 → V pp l ee { frames := 1, cells := 0, slots := 0, locals := 22 } ss mm ([.ref (adr L 1 k 0), .int (iI r)]).toArray bel mth cx 4 L (HH L g) 0 0 (MQ bel (va_Qi (fun (r9 : Int32) (u9 : St) => r9 = iI (if eCl g k r then 1 else 0) ∧ u9 = g) (fun u t => HS L u t) (Af L)) ([.ref (adr L 1 k 0), .int (iI r)]).toArray ss 0 0 (Af L)) 9 [(0, .ref (adr L 1 k 0)), (1, .int (iI r)), (2, .ref (adr L 7 k (g 5 k 0 r))), (3, .int (iI i))] [] := by
    intro n9
    induction n9 with
    | zero => intro i hi hc hm9; exact absurd hm9 (Nat.not_lt_zero _)
    | succ n9 ih9 =>
      intro i hi hc hm9
      have ih9 := ih9
      refine v_iload_n (pc := 9) C 3 rfl rfl dX1_echoClashes_9 ?_
      refine v_aload_n (pc := 10) C 0 rfl rfl dX1_echoClashes_10 ?_
      refine gt_1_2 (pc := 11) C ⟨by (first | assumption | omega | (simp [bl, up] <;> omega)), by (first | assumption | omega | (simp [bl, up] <;> omega))⟩ u_6_2 dX1_echoClashes_11 (g 1 k 0 2) (rfl) ?_
      refine v_icmp_ge (pc := 14) C 50 ⟨by (first | assumption | omega | (simp [bl, up] <;> omega)), by (first | assumption | omega | (simp [bl, up] <;> omega))⟩ ⟨by (first | assumption | omega | (simp [bl, up] <;> omega)), by (first | assumption | omega | (simp [bl, up] <;> omega))⟩ (by decide) dX1_echoClashes_14 (fun h14 => ?_) (fun h14 => ?_)
      · skip
        refine v_iconst (pc := 50) C dX1_echoClashes_50 ?_
        exact v_zret (pc := 51) C hr hlk (by first | assumption | omega | (simp [bl, up] <;> omega)) (⟨congrArg iI (by rw [if_neg]; show ¬ (0 < cn _ (g 1 k 0 2).toNat); rw [show g 1 k 0 2 = i by omega, hc]; decide), rfl⟩) dX1_echoClashes_51
      · skip
        refine v_iload_n (pc := 17) C 3 rfl rfl dX1_echoClashes_17 ?_
        refine v_iload_n (pc := 18) C 1 rfl rfl dX1_echoClashes_18 ?_
        refine v_icmp_eq (pc := 19) C 44 ⟨by (first | assumption | omega | (simp [bl, up] <;> omega)), by (first | assumption | omega | (simp [bl, up] <;> omega))⟩ ⟨by (first | assumption | omega | (simp [bl, up] <;> omega)), by (first | assumption | omega | (simp [bl, up] <;> omega))⟩ (by decide) dX1_echoClashes_19 (fun h19 => ?_) (fun h19 => ?_)
        · skip
          refine v_iinc (pc := 44) C 3 [(3, .int (iI (i + 1))), (0, .ref (adr L 1 k 0)), (1, .int (iI r)), (2, .ref (adr L 7 k (g 5 k 0 r)))] rfl (by decide) rfl dX1_echoClashes_44 ?_
          refine v_goto (pc := 47) C 9 (by decide) dX1_echoClashes_47 ?_
          refine v_lsub [1, 2, 3, 0] rfl ?_
          exact ih9 (i + 1) (by omega) (by rw [cn_s hi.1, hc]; simp only [pCl, decide_eq_true_eq]; grind) (by omega)
        · skip
          refine v_aload_n (pc := 22) C 0 rfl rfl dX1_echoClashes_22 ?_
          refine gt_1_6 (pc := 23) C ⟨by (first | assumption | omega | (simp [bl, up] <;> omega)), by (first | assumption | omega | (simp [bl, up] <;> omega))⟩ u_2_15 dX1_echoClashes_23 ?_
          refine v_iload_n (pc := 26) C 3 rfl rfl dX1_echoClashes_26 ?_
          refine al_5 (pc := 27) C ⟨by (first | assumption | omega | (simp [bl, up] <;> omega)), by (first | assumption | omega | (simp [bl, up] <;> omega))⟩ ⟨by (first | assumption | omega | (simp [bl, up] <;> omega)), by (first | assumption | omega | (simp [bl, up] <;> omega))⟩ dX1_echoClashes_27 (g 5 k 0 i) (rfl) ?_
          have hp27 := hPm i (by first | assumption | omega | (simp [bl, up] <;> omega)) (by first | assumption | omega | (simp [bl, up] <;> omega))
          have he27 := hEc i (by first | assumption | omega | (simp [bl, up] <;> omega)) (by first | assumption | omega | (simp [bl, up] <;> omega))
          unfold okE at he27
          refine v_aload_n (pc := 28) C 2 rfl rfl dX1_echoClashes_28 ?_
          refine gt_7_1 (pc := 29) C ⟨⟨by (first | assumption | omega | (simp [bl, up] <;> omega)), by (first | assumption | omega | (simp [bl, up] <;> omega))⟩, ⟨by (first | assumption | omega | (simp [bl, up] <;> omega)), by (first | assumption | omega | (simp [bl, up] <;> omega))⟩⟩ u_9_9 dX1_echoClashes_29 (g 7 k (g 5 k 0 r) 1) (rfl) ?_
          refine v_aload_n (pc := 32) C 2 rfl rfl dX1_echoClashes_32 ?_
          refine gt_7_3 (pc := 33) C ⟨⟨by (first | assumption | omega | (simp [bl, up] <;> omega)), by (first | assumption | omega | (simp [bl, up] <;> omega))⟩, ⟨by (first | assumption | omega | (simp [bl, up] <;> omega)), by (first | assumption | omega | (simp [bl, up] <;> omega))⟩⟩ u_9_11 dX1_echoClashes_33 (g 7 k (g 5 k 0 r) 3) (rfl) ?_
          refine v_calliV (pc := 36) C cw_RX1_136 (rcv_7 ⟨⟨by (first | assumption | omega | (simp [bl, up] <;> omega)), by (first | assumption | omega | (simp [bl, up] <;> omega))⟩, ⟨by (first | assumption | omega | (simp [bl, up] <;> omega)), by (first | assumption | omega | (simp [bl, up] <;> omega))⟩⟩) (ct_X2_comesTo l L g k (g 5 k 0 i) (g 7 k (g 5 k 0 r) 1) (g 7 k (g 5 k 0 r) 3) (by first | assumption | omega | (simp [bl, up] <;> omega)) (by first | assumption | omega | (simp [bl, up] <;> omega)) (by unfold rg; omega) (by unfold rg; omega)) ⟨Nat.le_of_ble_eq_true rfl, Nat.le_of_ble_eq_true rfl⟩ rfl (Nat.le_of_ble_eq_true rfl) ⟨Nat.le_of_ble_eq_true rfl, Nat.le_of_ble_eq_true rfl⟩ rfl dX1_echoClashes_36 (fun r9 u9 hP_1 => ?_)
          obtain ⟨hP_1, hP_1b⟩ := hP_1
          rw [hP_1, hP_1b]
          clear hP_1 hP_1b r9 u9
          refine v_if_eq (pc := 39) C 44 ⟨by split <;> decide, by split <;> decide⟩ (by decide) dX1_echoClashes_39 (fun h39 => ?_) (fun h39 => ?_)
          · skip
            refine v_iinc (pc := 44) C 3 [(3, .int (iI (i + 1))), (0, .ref (adr L 1 k 0)), (1, .int (iI r)), (2, .ref (adr L 7 k (g 5 k 0 r)))] rfl (by decide) rfl dX1_echoClashes_44 ?_
            refine v_goto (pc := 47) C 9 (by decide) dX1_echoClashes_47 ?_
            refine v_lsub [1, 2, 3, 0] rfl ?_
            exact ih9 (i + 1) (by omega) (by rw [cn_s hi.1, hc]; simp only [pCl, decide_eq_true_eq]; grind) (by omega)
          · skip
            refine v_iconst (pc := 42) C dX1_echoClashes_42 ?_
            exact v_zret (pc := 43) C hr hlk (by first | assumption | omega | (simp [bl, up] <;> omega)) (⟨congrArg iI (by exact (if_pos (cn_pos hi.1 (by omega) (by simp only [pCl, decide_eq_true_eq]; grind))).symm), rfl⟩) dX1_echoClashes_43
  refine v_lsub [2, 3, 1, 0] rfl ?_
  exact lb9 _ 0 (by omega) (by rfl) (Nat.lt_succ_self _)
set_option maxHeartbeats 4000000 in
set_option maxRecDepth 100000 in
theorem ct_X1_newEchoClashes (l : Launch) (L : Lay) (g : St) (k d p w : Int) (hk : 0 ≤ k ∧ k < 9) (hw : wf g k d) (hd : 0 ≤ d ∧ d ≤ 1) (hp : 0 ≤ p ∧ p < 4) (hw2 : 0 ≤ w ∧ w ≤ 1) : Met l yX1_newEchoClashes (.code yX1_newEchoClashes cX1_newEchoClashes 5 (some .boolean) :: wsL_law) { frames := 2, cells := 0, slots := 0, locals := 46 } (va_Pc [.ref (adr L 1 k 0), .int (iI p), .int (iI w)] (HS L g)) (va_Qi (fun (r9 : Int32) (u9 : St) => r9 = iI (if eT g k (g 6 k p 0) w = eT g k (g 6 k p 0) (1 - w) ∨ eDue g k (g 6 k p 0) (g 1 k 0 0 + eT g k (g 6 k p 0) w) then 1 else 0) ∧ u9 = g) (fun u t => HS L u t) (Af L)) 0 0 (Af L) := by
  refine ct_mk (by decide +kernel) (Nat.le_of_ble_eq_true rfl) ?_
  intro pp ee ss mm bel mth cx C hr hlk
  show V pp l ee { frames := 2, cells := 0, slots := 0, locals := 46 } ss mm ([.ref (adr L 1 k 0), .int (iI p), .int (iI w)]).toArray bel mth cx 5 L (HH L g) 0 0 _ 0 [(0, .ref (adr L 1 k 0)), (1, .int (iI p)), (2, .int (iI w))] []
  obtain ⟨hS0, hS1, hS2, hB0, hB1, hB2, hCl, hN, hPl, hPm, hPj, hEc, hSo⟩ := id hw
  have hpl := hPl p hp.1 hp.2
  have ht1 := eT_in (w := w) hw hpl
  have ht2 := eT_in (w := 1 - w) hw hpl
  refine v_aload_n (pc := 0) C 0 rfl rfl dX1_newEchoClashes_0 ?_
  refine gt_1_5 (pc := 1) C ⟨by (first | assumption | omega | (simp [bl, up] <;> omega)), by (first | assumption | omega | (simp [bl, up] <;> omega))⟩ u_2_13 dX1_newEchoClashes_1 ?_
  refine v_iload_n (pc := 4) C 1 rfl rfl dX1_newEchoClashes_4 ?_
  refine al_4 (pc := 5) C ⟨by (first | assumption | omega | (simp [bl, up] <;> omega)), by (first | assumption | omega | (simp [bl, up] <;> omega))⟩ ⟨by (first | assumption | omega | (simp [bl, up] <;> omega)), by (first | assumption | omega | (simp [bl, up] <;> omega))⟩ dX1_newEchoClashes_5 ?_
  refine gt_6_0 (pc := 6) C ⟨⟨by (first | assumption | omega | (simp [bl, up] <;> omega)), by (first | assumption | omega | (simp [bl, up] <;> omega))⟩, ⟨by (first | assumption | omega | (simp [bl, up] <;> omega)), by (first | assumption | omega | (simp [bl, up] <;> omega))⟩⟩ u_4_23 dX1_newEchoClashes_6 (g 6 k p 0) (rfl) ?_
  refine v_istore_n (pc := 9) C [(3, .int (iI (g 6 k p 0))), (0, .ref (adr L 1 k 0)), (1, .int (iI p)), (2, .int (iI w))] rfl (by decide) rfl dX1_newEchoClashes_9 ?_
  refine v_aload_n (pc := 10) C 1 rfl rfl dX1_newEchoClashes_10 ?_
  refine v_iload_n (pc := 11) C 0 rfl rfl dX1_newEchoClashes_11 ?_
  refine v_iload_n (pc := 12) C 3 rfl rfl dX1_newEchoClashes_12 ?_
  refine v_calliV (pc := 13) C cw_RX1_91 (rcv_1 ⟨by (first | assumption | omega | (simp [bl, up] <;> omega)), by (first | assumption | omega | (simp [bl, up] <;> omega))⟩) (ct_X1_echoTime l L g k (g 6 k p 0) w (by first | assumption | omega | (simp [bl, up] <;> omega)) (by first | assumption | omega | (simp [bl, up] <;> omega)) (by first | assumption | omega | (simp [bl, up] <;> omega)) (by first | assumption | omega | (simp [bl, up] <;> omega)) (by first | assumption | omega | (simp [bl, up] <;> omega)) (by first | assumption | omega | (simp [bl, up] <;> omega))) ⟨Nat.le_of_ble_eq_true rfl, Nat.le_of_ble_eq_true rfl⟩ rfl (Nat.le_of_ble_eq_true rfl) ⟨Nat.le_of_ble_eq_true rfl, Nat.le_of_ble_eq_true rfl⟩ rfl dX1_newEchoClashes_13 (fun r9 u9 hP_1 => ?_)
  obtain ⟨hP_1, hP_1b⟩ := hP_1
  rw [hP_1, hP_1b]
  clear hP_1 hP_1b r9 u9
  refine v_istore (pc := 16) C [(4, .int (iI (eT g k (g 6 k p 0) w))), (3, .int (iI (g 6 k p 0))), (0, .ref (adr L 1 k 0)), (1, .int (iI p)), (2, .int (iI w))] (by decide) rfl dX1_newEchoClashes_16 ?_
  refine v_iload (pc := 18) C 0 rfl dX1_newEchoClashes_18 ?_
  refine v_aload_n (pc := 20) C 2 rfl rfl dX1_newEchoClashes_20 ?_
  refine v_iload_n (pc := 21) C 1 rfl rfl dX1_newEchoClashes_21 ?_
  refine v_iconst (pc := 22) C dX1_newEchoClashes_22 ?_
  refine v_iload_n (pc := 23) C 4 rfl rfl dX1_newEchoClashes_23 ?_
  refine v_isub (pc := 24) C dX1_newEchoClashes_24 ?_
  refine v_calliV (pc := 25) C cw_RX1_91 (rcv_1 ⟨by (first | assumption | omega | (simp [bl, up] <;> omega)), by (first | assumption | omega | (simp [bl, up] <;> omega))⟩) (ct_X1_echoTime l L g k (g 6 k p 0) (1 - w) (by first | assumption | omega | (simp [bl, up] <;> omega)) (by first | assumption | omega | (simp [bl, up] <;> omega)) (by first | assumption | omega | (simp [bl, up] <;> omega)) (by first | assumption | omega | (simp [bl, up] <;> omega)) (by first | assumption | omega | (simp [bl, up] <;> omega)) (by first | assumption | omega | (simp [bl, up] <;> omega))) ⟨Nat.le_of_ble_eq_true rfl, Nat.le_of_ble_eq_true rfl⟩ rfl (Nat.le_of_ble_eq_true rfl) ⟨Nat.le_of_ble_eq_true rfl, Nat.le_of_ble_eq_true rfl⟩ rfl dX1_newEchoClashes_25 (fun r9 u9 hP_2 => ?_)
  obtain ⟨hP_2, hP_2b⟩ := hP_2
  rw [hP_2, hP_2b]
  clear hP_2 hP_2b r9 u9
  refine v_icmp_eq (pc := 28) C 41 ⟨by (first | assumption | omega | (simp [bl, up] <;> omega)), by (first | assumption | omega | (simp [bl, up] <;> omega))⟩ ⟨by (first | assumption | omega | (simp [bl, up] <;> omega)), by (first | assumption | omega | (simp [bl, up] <;> omega))⟩ (by decide) dX1_newEchoClashes_28 (fun h28 => ?_) (fun h28 => ?_)
  · skip
    refine v_iconst (pc := 41) C dX1_newEchoClashes_41 ?_
    refine v_goto (pc := 42) C 46 (by decide) dX1_newEchoClashes_42 ?_
    exact v_zret (pc := 46) C hr hlk (by first | assumption | omega | (simp [bl, up] <;> omega)) (⟨congrArg iI (by grind), rfl⟩) dX1_newEchoClashes_46
  · skip
    refine v_aload_n (pc := 31) C 2 rfl rfl dX1_newEchoClashes_31 ?_
    refine v_iload_n (pc := 32) C 1 rfl rfl dX1_newEchoClashes_32 ?_
    refine v_iload (pc := 33) C 0 rfl dX1_newEchoClashes_33 ?_
    refine v_calliV (pc := 35) C cw_RX1_140 (rcv_1 ⟨by (first | assumption | omega | (simp [bl, up] <;> omega)), by (first | assumption | omega | (simp [bl, up] <;> omega))⟩) (ct_X1_isEchoDue l L g k d (g 6 k p 0) (eT g k (g 6 k p 0) w) (by first | assumption | omega | (simp [bl, up] <;> omega)) (by first | assumption | omega | (simp [bl, up] <;> omega)) (by first | assumption | omega | (simp [bl, up] <;> omega)) (by first | assumption | omega | (simp [bl, up] <;> omega)) (by first | assumption | omega | (simp [bl, up] <;> omega))) ⟨Nat.le_of_ble_eq_true rfl, Nat.le_of_ble_eq_true rfl⟩ rfl (Nat.le_of_ble_eq_true rfl) ⟨Nat.le_of_ble_eq_true rfl, Nat.le_of_ble_eq_true rfl⟩ rfl dX1_newEchoClashes_35 (fun r9 u9 hP_3 => ?_)
    obtain ⟨hP_3, hP_3b⟩ := hP_3
    rw [hP_3, hP_3b]
    clear hP_3 hP_3b r9 u9
    refine v_if_eq (pc := 38) C 45 ⟨by split <;> decide, by split <;> decide⟩ (by decide) dX1_newEchoClashes_38 (fun h38 => ?_) (fun h38 => ?_)
    · skip
      refine v_iconst (pc := 45) C dX1_newEchoClashes_45 ?_
      exact v_zret (pc := 46) C hr hlk (by first | assumption | omega | (simp [bl, up] <;> omega)) (⟨congrArg iI (by grind), rfl⟩) dX1_newEchoClashes_46
    · skip
      refine v_iconst (pc := 41) C dX1_newEchoClashes_41 ?_
      refine v_goto (pc := 42) C 46 (by decide) dX1_newEchoClashes_42 ?_
      exact v_zret (pc := 46) C hr hlk (by first | assumption | omega | (simp [bl, up] <;> omega)) (⟨congrArg iI (by grind), rfl⟩) dX1_newEchoClashes_46
set_option maxHeartbeats 4000000 in
set_option maxRecDepth 100000 in
theorem ct_X1_meetsBallAlone (l : Launch) (L : Lay) (g : St) (k d p t : Int) (hk : 0 ≤ k ∧ k < 9) (hw : wf g k d) (hd : 0 ≤ d ∧ d ≤ 1) (hp : 0 ≤ p ∧ p ≤ 100) (ht : 0 ≤ t ∧ t ≤ 1000) : Met l yX1_meetsBallAlone (.code yX1_meetsBallAlone cX1_meetsBallAlone 3 (some .boolean) :: wsL_law) { frames := 2, cells := 0, slots := 0, locals := 46 } (va_Pc [.ref (adr L 1 k 0), .int (iI p), .int (iI t)] (HS L g)) (va_Qi (fun (r9 : Int32) (u9 : St) => r9 = iI (if mB g k p t then 1 else 0) ∧ u9 = g) (fun u t => HS L u t) (Af L)) 0 0 (Af L) := by
  refine ct_mk (by decide +kernel) (Nat.le_of_ble_eq_true rfl) ?_
  intro pp ee ss mm bel mth cx C hr hlk
  show V pp l ee { frames := 2, cells := 0, slots := 0, locals := 46 } ss mm ([.ref (adr L 1 k 0), .int (iI p), .int (iI t)]).toArray bel mth cx 3 L (HH L g) 0 0 _ 0 [(0, .ref (adr L 1 k 0)), (1, .int (iI p)), (2, .int (iI t))] []
  obtain ⟨hS0, hS1, hS2, hB0, hB1, hB2, hCl, hN, hPl, hPm, hPj, hEc, hSo⟩ := id hw
  have hu : 0 ≤ unf (g 3 k 0 0) (g 3 k 0 1) (g 3 k 0 2) t (g 2 k 0 0) ∧ unf (g 3 k 0 0) (g 3 k 0 1) (g 3 k 0 2) t (g 2 k 0 0) ≤ 100 := unf_in hS0
  refine v_aload_n (pc := 0) C 0 rfl rfl dX1_meetsBallAlone_0 ?_
  refine gt_1_4 (pc := 1) C ⟨by (first | assumption | omega | (simp [bl, up] <;> omega)), by (first | assumption | omega | (simp [bl, up] <;> omega))⟩ u_2_11 dX1_meetsBallAlone_1 ?_
  refine v_iload_n (pc := 4) C 2 rfl rfl dX1_meetsBallAlone_4 ?_
  refine v_aload_n (pc := 5) C 0 rfl rfl dX1_meetsBallAlone_5 ?_
  refine v_calliV (pc := 6) C cw_RX1_73 (rcv_1 ⟨by (first | assumption | omega | (simp [bl, up] <;> omega)), by (first | assumption | omega | (simp [bl, up] <;> omega))⟩) (ct_X1_lastPlace l L g k (by first | assumption | omega | (simp [bl, up] <;> omega))) ⟨Nat.le_of_ble_eq_true rfl, Nat.le_of_ble_eq_true rfl⟩ rfl (Nat.le_of_ble_eq_true rfl) ⟨Nat.le_of_ble_eq_true rfl, Nat.le_of_ble_eq_true rfl⟩ rfl dX1_meetsBallAlone_6 (fun r9 u9 hP_1 => ?_)
  obtain ⟨hP_1, hP_1b⟩ := hP_1
  rw [hP_1, hP_1b]
  clear hP_1 hP_1b r9 u9
  refine v_calliV (pc := 9) C cw_RX1_146 (rcv_3 ⟨by (first | assumption | omega | (simp [bl, up] <;> omega)), by (first | assumption | omega | (simp [bl, up] <;> omega))⟩) (ct_X0_unfoldedPlaceIn l L g k t (g 2 k 0 0) (by first | assumption | omega | (simp [bl, up] <;> omega)) (by first | assumption | omega | (simp [bl, up] <;> omega)) (by first | assumption | omega | (simp [bl, up] <;> omega)) (by first | assumption | omega | (simp [bl, up] <;> omega)) (by first | assumption | omega | (simp [bl, up] <;> omega)) (by first | assumption | omega | (simp [bl, up] <;> omega)) (by first | assumption | omega | (simp [bl, up] <;> omega))) ⟨Nat.le_of_ble_eq_true rfl, Nat.le_of_ble_eq_true rfl⟩ rfl (Nat.le_of_ble_eq_true rfl) ⟨Nat.le_of_ble_eq_true rfl, Nat.le_of_ble_eq_true rfl⟩ rfl dX1_meetsBallAlone_9 (fun r9 u9 hP_2 => ?_)
  obtain ⟨hP_2, hP_2b⟩ := hP_2
  rw [hP_2, hP_2b]
  clear hP_2 hP_2b r9 u9
  refine v_iload_n (pc := 12) C 1 rfl rfl dX1_meetsBallAlone_12 ?_
  refine v_icmp_ne (pc := 13) C 29 ⟨by (first | assumption | omega | (simp [bl, up] <;> omega)), by (first | assumption | omega | (simp [bl, up] <;> omega))⟩ ⟨by (first | assumption | omega | (simp [bl, up] <;> omega)), by (first | assumption | omega | (simp [bl, up] <;> omega))⟩ (by decide) dX1_meetsBallAlone_13 (fun h13 => ?_) (fun h13 => ?_)
  · skip
    refine v_iconst (pc := 29) C dX1_meetsBallAlone_29 ?_
    exact v_zret (pc := 30) C hr hlk (by first | assumption | omega | (simp [bl, up] <;> omega)) (⟨congrArg iI (by simp only [mB]; grind), rfl⟩) dX1_meetsBallAlone_30
  · skip
    refine v_aload_n (pc := 16) C 0 rfl rfl dX1_meetsBallAlone_16 ?_
    refine v_iload_n (pc := 17) C 1 rfl rfl dX1_meetsBallAlone_17 ?_
    refine v_iload_n (pc := 18) C 2 rfl rfl dX1_meetsBallAlone_18 ?_
    refine v_calliV (pc := 19) C cw_RX1_140 (rcv_1 ⟨by (first | assumption | omega | (simp [bl, up] <;> omega)), by (first | assumption | omega | (simp [bl, up] <;> omega))⟩) (ct_X1_isEchoDue l L g k d p t (by first | assumption | omega | (simp [bl, up] <;> omega)) (by first | assumption | omega | (simp [bl, up] <;> omega)) (by first | assumption | omega | (simp [bl, up] <;> omega)) (by first | assumption | omega | (simp [bl, up] <;> omega)) (by first | assumption | omega | (simp [bl, up] <;> omega))) ⟨Nat.le_of_ble_eq_true rfl, Nat.le_of_ble_eq_true rfl⟩ rfl (Nat.le_of_ble_eq_true rfl) ⟨Nat.le_of_ble_eq_true rfl, Nat.le_of_ble_eq_true rfl⟩ rfl dX1_meetsBallAlone_19 (fun r9 u9 hP_3 => ?_)
    obtain ⟨hP_3, hP_3b⟩ := hP_3
    rw [hP_3, hP_3b]
    clear hP_3 hP_3b r9 u9
    refine v_if_ne (pc := 22) C 29 ⟨by split <;> decide, by split <;> decide⟩ (by decide) dX1_meetsBallAlone_22 (fun h22 => ?_) (fun h22 => ?_)
    · skip
      refine v_iconst (pc := 29) C dX1_meetsBallAlone_29 ?_
      exact v_zret (pc := 30) C hr hlk (by first | assumption | omega | (simp [bl, up] <;> omega)) (⟨congrArg iI (by simp only [mB]; grind), rfl⟩) dX1_meetsBallAlone_30
    · skip
      refine v_iconst (pc := 25) C dX1_meetsBallAlone_25 ?_
      refine v_goto (pc := 26) C 30 (by decide) dX1_meetsBallAlone_26 ?_
      exact v_zret (pc := 30) C hr hlk (by first | assumption | omega | (simp [bl, up] <;> omega)) (⟨congrArg iI (by simp only [mB]; grind), rfl⟩) dX1_meetsBallAlone_30
