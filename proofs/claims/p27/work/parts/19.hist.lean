/-! pure words of the history, of the ball ahead, of the digest -/
def wh (g : St) : Prop := (0 ≤ g 8 0 0 1 ∧ g 8 0 0 1 ≤ 6) ∧ (∀ i, 0 ≤ i → i < 6 → 3 ≤ g 9 0 0 i ∧ g 9 0 0 i ≤ 8) ∧ (∀ i j, 0 ≤ i → i < 6 → 0 ≤ j → j < 6 → g 9 0 0 i = g 9 0 0 j → i = j)
def wA (g : St) : Prop := ∀ c, 0 ≤ c → c < 9 → wf g c 1
def doG (g : St) : St := fun f k j i => if f = 9 ∧ k = 0 ∧ j = 0 ∧ (0 ≤ i ∧ i < 5) then g 9 0 0 (i + 1) else if f = 9 ∧ k = 0 ∧ j = 0 ∧ i = 5 then g 9 0 0 0 else if f = 8 ∧ k = 0 ∧ j = 0 ∧ i = 1 then 5 else g f k j i
def svD (g : St) : St := if 6 ≤ g 8 0 0 1 then doG g else g
def svG (g : St) (k : Int) : St := up (cpE (svD g) (svD g 9 0 0 (svD g 8 0 0 1)) k (svD g 1 k 0 2).toNat) 8 0 0 1 (svD g 8 0 0 1 + 1)
def rsG (g : St) (k : Int) : St := cpE (up g 8 0 0 1 (g 8 0 0 1 - 1)) k (g 9 0 0 (g 8 0 0 1 - 1)) (g 1 (g 9 0 0 (g 8 0 0 1 - 1)) 0 2).toNat
theorem doG_f (g : St) {f : Nat} (h8 : f ≠ 8) (h9 : f ≠ 9) : doG g f = g f := by
  funext k j i; simp only [doG]; grind
theorem wf_ff {g u : St} {k d : Int} (h : ∀ f : Nat, 1 ≤ f → f ≤ 7 → u f = g f) (hw : wf g k d) : wf u k d := by
  unfold wf okE at *
  rw [h 1 (by decide) (by decide), h 2 (by decide) (by decide), h 3 (by decide) (by decide), h 5 (by decide) (by decide), h 6 (by decide) (by decide), h 7 (by decide) (by decide)]
  exact hw
theorem wh_do {g : St} (h : wh g) : wh (doG g) := by
  obtain ⟨h1, h2, h3⟩ := h
  refine ⟨by simp [doG], fun i h0 h6 => ?_, fun i j hi0 hi6 hj0 hj6 he => ?_⟩
  · simp only [doG]
    by_cases hi : i = 5
    · subst hi; simp; exact h2 0 (by omega) (by omega)
    · rw [if_pos (by simp; omega)]; exact h2 (i + 1) (by omega) (by omega)
  · simp only [doG] at he
    have e1 := h3 (i + 1) (j + 1)
    have e2 := h3 0 (j + 1)
    have e3 := h3 (i + 1) 0
    by_cases hi : i = 5 <;> by_cases hj : j = 5
    · omega
    · subst hi; rw [if_neg (by omega), if_pos (by simp), if_pos (by simp; omega)] at he; have := e2 (by omega) (by omega) (by omega) (by omega) he; omega
    · subst hj; rw [if_pos (by simp; omega), if_neg (by omega), if_pos (by simp)] at he; have := e3 (by omega) (by omega) (by omega) (by omega) he; omega
    · rw [if_pos (by simp; omega), if_pos (by simp; omega)] at he; have := e1 (by omega) (by omega) (by omega) (by omega) he; omega
theorem svD_wh {g : St} (h : wh g) : wh (svD g) := by unfold svD; split; exact wh_do h; exact h
theorem svD_f (g : St) {f : Nat} (h8 : f ≠ 8) (h9 : f ≠ 9) : svD g f = g f := by unfold svD; split; exact doG_f g h8 h9; rfl
theorem svD_8 {g : St} (h : wh g) : 0 ≤ svD g 8 0 0 1 ∧ svD g 8 0 0 1 ≤ 5 := by
  obtain ⟨h1, -⟩ := h
  unfold svD; split
  · simp [doG]
  · omega
def ctN (g : St) (w : Int) : Int := if w = 11 then g 8 0 0 1 else nbN g 0 w
theorem bwalk_add (a : Int) (m : Nat) (q : Int × Int) : ∀ n, bwalk a (m + n) q = bwalk a n (bwalk a m q)
  | 0 => rfl
  | n + 1 => by rw [← Nat.add_assoc, bwalk, bwalk, bwalk_add a m q n]
def bwN (g : St) (t : Int) : Int × Int := bwalk (g 2 0 0 0) (g 3 0 0 1 * t).toNat (g 3 0 0 0, g 3 0 0 2)
def sbG (g : St) (t : Int) : St := bl (up g 3 9 0 1 (g 3 0 0 1)) 9 (bwN g t).1 (bwN g t).2
def bnN (g : St) (t w : Int) : Int := if w = 1 then unf (g 3 0 0 0) (g 3 0 0 1) (g 3 0 0 2) t (g 2 0 0 0) else if w = 0 then (bwN g t).1 else (bwN g t).2
def bnG (g : St) (t w : Int) : St := if w = 1 then g else sbG g t
theorem sbG_f (g : St) (t : Int) {f : Nat} (h : f ≠ 3) : sbG g t f = g f := by
  funext k j i; simp only [sbG, bl, up]; grind
theorem sbG_k (g : St) (t : Int) {k : Int} (h : k ≠ 9) : sbG g t 3 k = g 3 k := by
  funext j i; simp only [sbG, bl, up]; grind
theorem sbG_90 (g : St) (t : Int) : sbG g t 3 9 0 0 = (bwN g t).1 := by simp [sbG, bl]
theorem sbG_91 (g : St) (t : Int) : sbG g t 3 9 0 1 = g 3 0 0 1 := by simp [sbG, bl, up]
theorem sbG_92 (g : St) (t : Int) : sbG g t 3 9 0 2 = (bwN g t).2 := by simp [sbG, bl]
theorem sbG_sb (g : St) (t t2 : Int) : sbG (sbG g t) t2 = sbG g t2 := by
  have h : bwN (sbG g t) t2 = bwN g t2 := by unfold bwN; rw [sbG_f g t (f := 2) (by decide), sbG_k g t (k := 0) (by decide)]
  unfold sbG at *
  rw [h]
  funext f k j i
  simp only [bl, up]; grind
theorem bnN_sb (g : St) (t t2 w : Int) : bnN (sbG g t) t2 w = bnN g t2 w := by
  have h : bwN (sbG g t) t2 = bwN g t2 := by unfold bwN; rw [sbG_f g t (f := 2) (by decide), sbG_k g t (k := 0) (by decide)]
  unfold bnN
  rw [h, sbG_f g t (f := 2) (by decide), sbG_k g t (k := 0) (by decide)]
theorem bwN_s (g : St) {i : Int} (hi : 0 ≤ i) (hs : 0 ≤ g 3 0 0 1) : bwN g (i + 1) = bwalk (g 2 0 0 0) (g 3 0 0 1).toNat (bwN g i) := by
  unfold bwN
  rw [← bwalk_add]
  congr 1
  have : 0 ≤ g 3 0 0 1 * i := Int.mul_nonneg hs hi
  rw [Int.mul_add, Int.mul_one, Int.toNat_add this hs]
theorem sbG_s (g : St) {i : Int} (hi : 0 ≤ i) (hs : 0 ≤ g 3 0 0 1) : bl (sbG g i) 9 (bwalk (g 2 0 0 0) (g 3 0 0 1).toNat ((bwN g i).1, (bwN g i).2)).1 (bwalk (g 2 0 0 0) (g 3 0 0 1).toNat ((bwN g i).1, (bwN g i).2)).2 = sbG g (i + 1) := by
  unfold sbG
  rw [bwN_s g hi hs, bl_bl]
def mpN (g : St) (h p : Int) : Int :=
  31 * (31 * (31 * (31 * (31 * (31 * (31 * (31 * (31 * (31 * (31 * (31 * h + plN g 0 p 0) + plN g 0 p 1) + plN g 0 p 2) + plN g 0 p 3) + plN g 0 p 4) + plN g 0 p 5) + plN g 0 p 6) + eT g 0 (g 6 0 p 0) 0) + (if eT g 0 (g 6 0 p 0) 0 = eT g 0 (g 6 0 p 0) (1 - 0) ∨ eDue g 0 (g 6 0 p 0) (g 1 0 0 0 + eT g 0 (g 6 0 p 0) 0) then 1 else 0)) + eT g 0 (g 6 0 p 0) 1) + (if eT g 0 (g 6 0 p 0) 1 = eT g 0 (g 6 0 p 0) (1 - 1) ∨ eDue g 0 (g 6 0 p 0) (g 1 0 0 0 + eT g 0 (g 6 0 p 0) 1) then 1 else 0)) + (if eT g 0 (g 6 0 p 0) 0 = eT g 0 (g 6 0 p 0) 1 then -1 else frst (pW g 0 (g 6 0 p 0)) 61 0)
def mbN (g : St) (h t : Int) : Int := 31 * (31 * (31 * h + bnN g t 0) + bnN g t 1) + bnN g t 2
theorem plN_in {g : St} {k d p w : Int} (h : wf g k d) (hc : ctr g k) (hp : 0 ≤ p ∧ p < 4) (hw : 0 ≤ w ∧ w ≤ 6) : 0 ≤ plN g k p w ∧ plN g k p w ≤ 1000000 := by
  obtain ⟨hS0, hS1, hS2, hB0, hB1, hB2, hCl, hN, hPl, -⟩ := h
  have h0 := hPl p hp.1 hp.2
  have he : 0 ≤ eOf g k p ∧ eOf g k p ≤ 24 := ⟨(cn_nn _ _).1, by have := (cn_nn (pOf g k p) (g 1 k 0 2).toNat).2; show cn _ _ ≤ 24; omega⟩
  have h1 := hc p 1 hp.1 hp.2 (by omega) (by omega)
  have h2 := hc p 2 hp.1 hp.2 (by omega) (by omega)
  have h3 := hc p 3 hp.1 hp.2 (by omega) (by omega)
  have h4 := hc p 4 hp.1 hp.2 (by omega) (by omega)
  have h5 := hc p 5 hp.1 hp.2 (by omega) (by omega)
  unfold plN
  (repeat' split) <;> omega
theorem frst_in (P : Int → Bool) : ∀ (n : Nat) (a : Int), 0 ≤ a → -1 ≤ frst P n a ∧ frst P n a ≤ a + n
  | 0, a, h => by simp only [frst]; omega
  | n + 1, a, h => by
    simp only [frst]; split
    · omega
    · have := frst_in P n (a + 1) (by omega); omega
theorem se_in {g u : St} {k p w z : Int} (h : wf g k 1) (hp : 0 ≤ p ∧ p < 4) (hs : se g u k p w z) : -1 ≤ z ∧ z ≤ 100 ∧ (z = -1 ↔ 6 < eOf g k p + 2) := by
  have hpl := h.2.2.2.2.2.2.2.2.1 p hp.1 hp.2
  have h0 := eT_in (w := 0) h hpl
  have h1 := eT_in (w := 1) h hpl
  rcases hs with ⟨q1, q2, -⟩ | ⟨q1, q2, -⟩ <;> omega
theorem cpE_f (g : St) (k o : Int) {f : Nat} (h : 8 ≤ f) : ∀ n, cpE g k o n f = g f
  | 0 => by funext k' j i; simp only [cpE, cp3, cp2, cp1]; grind
  | n + 1 => by rw [cpE, cp7_f _ _ _ _ _ (by omega)]; exact cpE_f g k o h n
/-- an order, by its place -/
def oTu (g : St) (i : Int) : Int := if isDg (cdA g (i + 1 + 1)) then 10 * (cdA g (i + 1) - 48) + (cdA g (i + 1 + 1) - 48) else cdA g (i + 1) - 48
def oSt (g : St) (i : Int) : Int := if cdA g (i + 2) = 45 then -(cdA g (i + 2 + 1) - 48) else cdA g (i + 2 + 1) - 48
def do1 (g u : St) (i z : Int) : Prop := (cdA g i = 99 ∧ ∃ y, se g u 0 (cdA g (i + 1) - 48) (cdA g (i + 3) - 48) y ∧ z = if y = -1 then 0 else 1) ∨ (cdA g i = 109 ∧ u = mvG g 0 (cdA g (i + 1) - 48) (oSt g i) ∧ z = if mvR g 0 (cdA g (i + 1) - 48) (oSt g i) = -1 then 0 else 1) ∨ ((cdA g i ≠ 99 ∧ cdA g i ≠ 109) ∧ ((¬ g 1 0 0 0 + oTu g i ≤ 99999 ∧ u = g ∧ z = 0) ∨ (g 1 0 0 0 + oTu g i ≤ 99999 ∧ z = 1 ∧ ∃ y, trs 0 (oTu g i).toNat g u y)))
theorem sbG_wf {g : St} (t : Int) (h : wf g 0 1) : wf (sbG g t) 0 1 := by
  unfold wf okE at *
  rw [sbG_f g t (f := 1) (by decide), sbG_f g t (f := 2) (by decide), sbG_f g t (f := 5) (by decide), sbG_f g t (f := 6) (by decide), sbG_f g t (f := 7) (by decide), sbG_k g t (k := 0) (by decide)]
  exact h
theorem bnN_in {g : St} {t w : Int} (h : wf g 0 1) (ht : 0 ≤ t ∧ t ≤ 100) : 0 ≤ bnN g t w ∧ bnN g t w ≤ 100 := by
  obtain ⟨hS0, hS1, hS2, hB0, hB1, hB2, -⟩ := h
  have hb := bwalk_in (last := g 2 0 0 0) (by omega) (q := (g 3 0 0 0, g 3 0 0 2)) hB0 hB2 (g 3 0 0 1 * t).toNat
  unfold bnN
  split
  · exact unf_in hS0
  · unfold bwN; split <;> omega

theorem cw_RX3_20 : CW RX3 20 RX3 yX3_dropOldest cX3_dropOldest 3 none 0 := ⟨u_10_18, u_10_19, u_10_20, u_1_16, u_10_21, by decide +kernel⟩
theorem cw_RX3_23 : CW RX3 23 RX1 yX1_copyFrom cX1_copyFrom 3 none 1 := ⟨u_10_22, u_10_23, u_11_0, u_1_12, u_11_1, by decide +kernel⟩
theorem cw_RX6_64 : CW RX6 64 RX1 yX1_lastPlace cX1_lastPlace 1 (some .int) 0 := ⟨u_13_7, u_5_9, u_5_10, u_1_12, u_5_11, by decide +kernel⟩
theorem cw_RX6_242 : CW RX6 242 RX1 yX1_number cX1_number 2 (some .int) 1 := ⟨u_7_9, u_7_10, u_7_11, u_1_12, u_7_12, by decide +kernel⟩
theorem cw_RX6_245 : CW RX6 245 RX0 yX0_unfoldedPlaceIn cX0_unfoldedPlaceIn 6 (some .int) 2 := ⟨u_19_10, u_5_17, u_5_18, u_2_3, u_5_19, by decide +kernel⟩
theorem cw_RX6_248 : CW RX6 248 RX0 yX0_copyFrom cX0_copyFrom 2 none 1 := ⟨u_19_11, u_11_3, u_11_4, u_2_3, u_11_5, by decide +kernel⟩
theorem cw_RX6_251 : CW RX6 251 RX0 yX0_goTurn cX0_goTurn 3 none 1 := ⟨u_19_12, u_15_1, u_15_2, u_2_3, u_15_3, by decide +kernel⟩
theorem cw_RX6_254 : CW RX6 254 RX0 yX0_rightNumber cX0_rightNumber 1 (some .int) 0 := ⟨u_19_13, u_7_17, u_7_18, u_2_3, u_7_19, by decide +kernel⟩
set_option maxHeartbeats 4000000 in
set_option maxRecDepth 100000 in
theorem ct_X3_dropOldest (l : Launch) (L : Lay) (g : St) (hh : wh g) : Met l yX3_dropOldest (.code yX3_dropOldest cX3_dropOldest 3 none :: wsL_law) { frames := 0, cells := 0, slots := 0, locals := 0 } (va_Pc [.ref (adr L 8 0 0)] (HS L g)) (va_Qv (fun (u9 : St) => u9 = (doG g)) (fun u t => HS L u t) (Af L)) 0 0 (Af L) := by
  refine ct_mk (by decide +kernel) (Nat.le_of_ble_eq_true rfl) ?_
  intro pp ee ss mm bel mth cx C hr hlk
  show V pp l ee { frames := 0, cells := 0, slots := 0, locals := 0 } ss mm ([.ref (adr L 8 0 0)]).toArray bel mth cx 3 L (HH L g) 0 0 _ 0 [(0, .ref (adr L 8 0 0))] []
  obtain ⟨hh1, hh2, hh3⟩ := id hh
  have hs0 := hh2 0 (by omega) (by omega)
  have hs1 := hh2 1 (by omega) (by omega)
  have hs2 := hh2 2 (by omega) (by omega)
  have hs3 := hh2 3 (by omega) (by omega)
  have hs4 := hh2 4 (by omega) (by omega)
  have hs5 := hh2 5 (by omega) (by omega)
  refine v_aload_n (pc := 0) C 0 rfl rfl dX3_dropOldest_0 ?_
  refine gt_8_0 (pc := 1) C u_3_14 dX3_dropOldest_1 ?_
  refine v_iconst (pc := 4) C dX3_dropOldest_4 ?_
  refine al_9 (pc := 5) C ⟨by (first | assumption | omega | (simp [bl, up] <;> omega)), by (first | assumption | omega | (simp [bl, up] <;> omega))⟩ dX3_dropOldest_5 (g 9 0 0 0) (rfl) ?_
  refine v_astore_n (pc := 6) C [(1, .ref (adr L 1 (g 9 0 0 0) 0)), (0, .ref (adr L 8 0 0))] rfl (by decide) rfl dX3_dropOldest_6 ?_
  refine v_iconst (pc := 7) C dX3_dropOldest_7 ?_
  refine v_istore_n (pc := 8) C [(2, .int (iI 1)), (1, .ref (adr L 1 (g 9 0 0 0) 0)), (0, .ref (adr L 8 0 0))] rfl (by decide) rfl dX3_dropOldest_8 ?_
  refine v_iload_n (pc := 9) C 0 rfl rfl dX3_dropOldest_9 ?_
  refine v_bipush (pc := 10) C rfl dX3_dropOldest_10 ?_
  refine v_icmp_ge (pc := 12) C 35 ⟨by (first | assumption | omega | (simp [bl, up] <;> omega)), by (first | assumption | omega | (simp [bl, up] <;> omega))⟩ ⟨by (first | assumption | omega | (simp [bl, up] <;> omega)), by (first | assumption | omega | (simp [bl, up] <;> omega))⟩ (by decide) dX3_dropOldest_12 (fun h12 => ?_) (fun h12 => ?_)
  · skip
    exfalso; omega
  · skip
    refine v_aload_n (pc := 15) C 2 rfl rfl dX3_dropOldest_15 ?_
    refine gt_8_0 (pc := 16) C u_3_14 dX3_dropOldest_16 ?_
    refine v_iload_n (pc := 19) C 0 rfl rfl dX3_dropOldest_19 ?_
    refine v_iconst (pc := 20) C dX3_dropOldest_20 ?_
    refine v_isub (pc := 21) C dX3_dropOldest_21 ?_
    refine v_topi (b := 0) C (by decide) ?_
    refine v_aload_n (pc := 22) C 2 rfl rfl dX3_dropOldest_22 ?_
    refine gt_8_0 (pc := 23) C u_3_14 dX3_dropOldest_23 ?_
    refine v_iload_n (pc := 26) C 0 rfl rfl dX3_dropOldest_26 ?_
    refine al_9 (pc := 27) C ⟨by (first | assumption | omega | (simp [bl, up] <;> omega)), by (first | assumption | omega | (simp [bl, up] <;> omega))⟩ dX3_dropOldest_27 (g 9 0 0 1) (rfl) ?_
    refine as_9 (pc := 28) C ⟨by (first | assumption | omega | (simp [bl, up] <;> omega)), by (first | assumption | omega | (simp [bl, up] <;> omega))⟩ ⟨by (first | assumption | omega | (simp [bl, up] <;> omega)), by (first | assumption | omega | (simp [bl, up] <;> omega))⟩ dX3_dropOldest_28 ?_
    refine v_iinc (pc := 29) C 0 [(2, .int (iI 2)), (1, .ref (adr L 1 (g 9 0 0 0) 0)), (0, .ref (adr L 8 0 0))] rfl (by decide) rfl dX3_dropOldest_29 ?_
    refine v_goto (pc := 32) C 9 (by decide) dX3_dropOldest_32 ?_
    refine v_iload_n (pc := 9) C 0 rfl rfl dX3_dropOldest_9 ?_
    refine v_bipush (pc := 10) C rfl dX3_dropOldest_10 ?_
    refine v_icmp_ge (pc := 12) C 35 ⟨by (first | assumption | omega | (simp [bl, up] <;> omega)), by (first | assumption | omega | (simp [bl, up] <;> omega))⟩ ⟨by (first | assumption | omega | (simp [bl, up] <;> omega)), by (first | assumption | omega | (simp [bl, up] <;> omega))⟩ (by decide) dX3_dropOldest_12 (fun h12 => ?_) (fun h12 => ?_)
    · skip
      exfalso; omega
    · skip
      refine v_aload_n (pc := 15) C 2 rfl rfl dX3_dropOldest_15 ?_
      refine gt_8_0 (pc := 16) C u_3_14 dX3_dropOldest_16 ?_
      refine v_iload_n (pc := 19) C 0 rfl rfl dX3_dropOldest_19 ?_
      refine v_iconst (pc := 20) C dX3_dropOldest_20 ?_
      refine v_isub (pc := 21) C dX3_dropOldest_21 ?_
      refine v_topi (b := 1) C (by decide) ?_
      refine v_aload_n (pc := 22) C 2 rfl rfl dX3_dropOldest_22 ?_
      refine gt_8_0 (pc := 23) C u_3_14 dX3_dropOldest_23 ?_
      refine v_iload_n (pc := 26) C 0 rfl rfl dX3_dropOldest_26 ?_
      refine al_9 (pc := 27) C ⟨by (first | assumption | omega | (simp [bl, up] <;> omega)), by (first | assumption | omega | (simp [bl, up] <;> omega))⟩ dX3_dropOldest_27 (g 9 0 0 2) (by simp [up]) ?_
      refine as_9 (pc := 28) C ⟨by (first | assumption | omega | (simp [bl, up] <;> omega)), by (first | assumption | omega | (simp [bl, up] <;> omega))⟩ ⟨by (first | assumption | omega | (simp [bl, up] <;> omega)), by (first | assumption | omega | (simp [bl, up] <;> omega))⟩ dX3_dropOldest_28 ?_
      refine v_iinc (pc := 29) C 0 [(2, .int (iI 3)), (1, .ref (adr L 1 (g 9 0 0 0) 0)), (0, .ref (adr L 8 0 0))] rfl (by decide) rfl dX3_dropOldest_29 ?_
      refine v_goto (pc := 32) C 9 (by decide) dX3_dropOldest_32 ?_
      refine v_iload_n (pc := 9) C 0 rfl rfl dX3_dropOldest_9 ?_
      refine v_bipush (pc := 10) C rfl dX3_dropOldest_10 ?_
      refine v_icmp_ge (pc := 12) C 35 ⟨by (first | assumption | omega | (simp [bl, up] <;> omega)), by (first | assumption | omega | (simp [bl, up] <;> omega))⟩ ⟨by (first | assumption | omega | (simp [bl, up] <;> omega)), by (first | assumption | omega | (simp [bl, up] <;> omega))⟩ (by decide) dX3_dropOldest_12 (fun h12 => ?_) (fun h12 => ?_)
      · skip
        exfalso; omega
      · skip
        refine v_aload_n (pc := 15) C 2 rfl rfl dX3_dropOldest_15 ?_
        refine gt_8_0 (pc := 16) C u_3_14 dX3_dropOldest_16 ?_
        refine v_iload_n (pc := 19) C 0 rfl rfl dX3_dropOldest_19 ?_
        refine v_iconst (pc := 20) C dX3_dropOldest_20 ?_
        refine v_isub (pc := 21) C dX3_dropOldest_21 ?_
        refine v_topi (b := 2) C (by decide) ?_
        refine v_aload_n (pc := 22) C 2 rfl rfl dX3_dropOldest_22 ?_
        refine gt_8_0 (pc := 23) C u_3_14 dX3_dropOldest_23 ?_
        refine v_iload_n (pc := 26) C 0 rfl rfl dX3_dropOldest_26 ?_
        refine al_9 (pc := 27) C ⟨by (first | assumption | omega | (simp [bl, up] <;> omega)), by (first | assumption | omega | (simp [bl, up] <;> omega))⟩ dX3_dropOldest_27 (g 9 0 0 3) (by simp [up]) ?_
        refine as_9 (pc := 28) C ⟨by (first | assumption | omega | (simp [bl, up] <;> omega)), by (first | assumption | omega | (simp [bl, up] <;> omega))⟩ ⟨by (first | assumption | omega | (simp [bl, up] <;> omega)), by (first | assumption | omega | (simp [bl, up] <;> omega))⟩ dX3_dropOldest_28 ?_
        refine v_iinc (pc := 29) C 0 [(2, .int (iI 4)), (1, .ref (adr L 1 (g 9 0 0 0) 0)), (0, .ref (adr L 8 0 0))] rfl (by decide) rfl dX3_dropOldest_29 ?_
        refine v_goto (pc := 32) C 9 (by decide) dX3_dropOldest_32 ?_
        refine v_iload_n (pc := 9) C 0 rfl rfl dX3_dropOldest_9 ?_
        refine v_bipush (pc := 10) C rfl dX3_dropOldest_10 ?_
        refine v_icmp_ge (pc := 12) C 35 ⟨by (first | assumption | omega | (simp [bl, up] <;> omega)), by (first | assumption | omega | (simp [bl, up] <;> omega))⟩ ⟨by (first | assumption | omega | (simp [bl, up] <;> omega)), by (first | assumption | omega | (simp [bl, up] <;> omega))⟩ (by decide) dX3_dropOldest_12 (fun h12 => ?_) (fun h12 => ?_)
        · skip
          exfalso; omega
        · skip
          refine v_aload_n (pc := 15) C 2 rfl rfl dX3_dropOldest_15 ?_
          refine gt_8_0 (pc := 16) C u_3_14 dX3_dropOldest_16 ?_
          refine v_iload_n (pc := 19) C 0 rfl rfl dX3_dropOldest_19 ?_
          refine v_iconst (pc := 20) C dX3_dropOldest_20 ?_
          refine v_isub (pc := 21) C dX3_dropOldest_21 ?_
          refine v_topi (b := 3) C (by decide) ?_
          refine v_aload_n (pc := 22) C 2 rfl rfl dX3_dropOldest_22 ?_
          refine gt_8_0 (pc := 23) C u_3_14 dX3_dropOldest_23 ?_
          refine v_iload_n (pc := 26) C 0 rfl rfl dX3_dropOldest_26 ?_
          refine al_9 (pc := 27) C ⟨by (first | assumption | omega | (simp [bl, up] <;> omega)), by (first | assumption | omega | (simp [bl, up] <;> omega))⟩ dX3_dropOldest_27 (g 9 0 0 4) (by simp [up]) ?_
          refine as_9 (pc := 28) C ⟨by (first | assumption | omega | (simp [bl, up] <;> omega)), by (first | assumption | omega | (simp [bl, up] <;> omega))⟩ ⟨by (first | assumption | omega | (simp [bl, up] <;> omega)), by (first | assumption | omega | (simp [bl, up] <;> omega))⟩ dX3_dropOldest_28 ?_
          refine v_iinc (pc := 29) C 0 [(2, .int (iI 5)), (1, .ref (adr L 1 (g 9 0 0 0) 0)), (0, .ref (adr L 8 0 0))] rfl (by decide) rfl dX3_dropOldest_29 ?_
          refine v_goto (pc := 32) C 9 (by decide) dX3_dropOldest_32 ?_
          refine v_iload_n (pc := 9) C 0 rfl rfl dX3_dropOldest_9 ?_
          refine v_bipush (pc := 10) C rfl dX3_dropOldest_10 ?_
          refine v_icmp_ge (pc := 12) C 35 ⟨by (first | assumption | omega | (simp [bl, up] <;> omega)), by (first | assumption | omega | (simp [bl, up] <;> omega))⟩ ⟨by (first | assumption | omega | (simp [bl, up] <;> omega)), by (first | assumption | omega | (simp [bl, up] <;> omega))⟩ (by decide) dX3_dropOldest_12 (fun h12 => ?_) (fun h12 => ?_)
          · skip
            exfalso; omega
          · skip
            refine v_aload_n (pc := 15) C 2 rfl rfl dX3_dropOldest_15 ?_
            refine gt_8_0 (pc := 16) C u_3_14 dX3_dropOldest_16 ?_
            refine v_iload_n (pc := 19) C 0 rfl rfl dX3_dropOldest_19 ?_
            refine v_iconst (pc := 20) C dX3_dropOldest_20 ?_
            refine v_isub (pc := 21) C dX3_dropOldest_21 ?_
            refine v_topi (b := 4) C (by decide) ?_
            refine v_aload_n (pc := 22) C 2 rfl rfl dX3_dropOldest_22 ?_
            refine gt_8_0 (pc := 23) C u_3_14 dX3_dropOldest_23 ?_
            refine v_iload_n (pc := 26) C 0 rfl rfl dX3_dropOldest_26 ?_
            refine al_9 (pc := 27) C ⟨by (first | assumption | omega | (simp [bl, up] <;> omega)), by (first | assumption | omega | (simp [bl, up] <;> omega))⟩ dX3_dropOldest_27 (g 9 0 0 5) (by simp [up]) ?_
            refine as_9 (pc := 28) C ⟨by (first | assumption | omega | (simp [bl, up] <;> omega)), by (first | assumption | omega | (simp [bl, up] <;> omega))⟩ ⟨by (first | assumption | omega | (simp [bl, up] <;> omega)), by (first | assumption | omega | (simp [bl, up] <;> omega))⟩ dX3_dropOldest_28 ?_
            refine v_iinc (pc := 29) C 0 [(2, .int (iI 6)), (1, .ref (adr L 1 (g 9 0 0 0) 0)), (0, .ref (adr L 8 0 0))] rfl (by decide) rfl dX3_dropOldest_29 ?_
            refine v_goto (pc := 32) C 9 (by decide) dX3_dropOldest_32 ?_
            refine v_iload_n (pc := 9) C 0 rfl rfl dX3_dropOldest_9 ?_
            refine v_bipush (pc := 10) C rfl dX3_dropOldest_10 ?_
            refine v_icmp_ge (pc := 12) C 35 ⟨by (first | assumption | omega | (simp [bl, up] <;> omega)), by (first | assumption | omega | (simp [bl, up] <;> omega))⟩ ⟨by (first | assumption | omega | (simp [bl, up] <;> omega)), by (first | assumption | omega | (simp [bl, up] <;> omega))⟩ (by decide) dX3_dropOldest_12 (fun h12 => ?_) (fun h12 => ?_)
            · skip
              refine v_aload_n (pc := 35) C 2 rfl rfl dX3_dropOldest_35 ?_
              refine gt_8_0 (pc := 36) C u_3_14 dX3_dropOldest_36 ?_
              refine v_iconst (pc := 39) C dX3_dropOldest_39 ?_
              refine v_aload_n (pc := 40) C 1 rfl rfl dX3_dropOldest_40 ?_
              refine as_9 (pc := 41) C ⟨by (first | assumption | omega | (simp [bl, up] <;> omega)), by (first | assumption | omega | (simp [bl, up] <;> omega))⟩ ⟨by (first | assumption | omega | (simp [bl, up] <;> omega)), by (first | assumption | omega | (simp [bl, up] <;> omega))⟩ dX3_dropOldest_41 ?_
              refine v_aload_n (pc := 42) C 2 rfl rfl dX3_dropOldest_42 ?_
              refine v_iconst (pc := 43) C dX3_dropOldest_43 ?_
              refine pt_8_1 (pc := 44) C u_10_17 dX3_dropOldest_44 ?_
              exact v_vret (pc := 47) C hr hlk (by clear hh hh2 hh3; funext f' k' j' i'; simp only [doG, up]; grind (splits := 20)) dX3_dropOldest_47
            · skip
              exfalso; omega
set_option maxHeartbeats 4000000 in
set_option maxRecDepth 100000 in
theorem ct_X3_save (l : Launch) (L : Lay) (g : St) (k : Int) (hk : 0 ≤ k ∧ k < 3) (hh : wh g) (hA : wA g) : Met l yX3_save (.code yX3_save cX3_save 2 none :: wsL_law) { frames := 2, cells := 0, slots := 0, locals := 43 } (va_Pc [.ref (adr L 8 0 0), .ref (adr L 1 k 0)] (HS L g)) (va_Qv (fun (u9 : St) => u9 = (svG g k)) (fun u t => HS L u t) (Af L)) 0 0 (Af L) := by
  refine ct_mk (by decide +kernel) (Nat.le_of_ble_eq_true rfl) ?_
  intro pp ee ss mm bel mth cx C hr hlk
  show V pp l ee { frames := 2, cells := 0, slots := 0, locals := 43 } ss mm ([.ref (adr L 8 0 0), .ref (adr L 1 k 0)]).toArray bel mth cx 2 L (HH L g) 0 0 _ 0 [(0, .ref (adr L 8 0 0)), (1, .ref (adr L 1 k 0))] []
  have hh1 := hh.1
  have hwd := svD_wh hh
  have h8 := svD_8 hh
  have hs9 := hwd.2.1 (svD g 8 0 0 1) (by omega) (by omega)
  refine v_aload_n (pc := 0) C 0 rfl rfl dX3_save_0 ?_
  refine gt_8_1 (pc := 1) C u_10_17 dX3_save_1 (g 8 0 0 1) (rfl) ?_
  refine v_bipush (pc := 4) C rfl dX3_save_4 ?_
  refine v_icmp_lt (pc := 6) C 13 ⟨by (first | assumption | omega), by (first | assumption | omega)⟩ ⟨by (first | assumption | omega), by (first | assumption | omega)⟩ (by decide) dX3_save_6 (fun h6 => ?_) (fun h6 => ?_)
  · skip
    refine v_st (g2 := svD g) C (by unfold svD; first | rw [if_pos (by omega)] | rw [if_neg (by omega)]) ?_
    refine v_aload_n (pc := 13) C 0 rfl rfl dX3_save_13 ?_
    refine gt_8_0 (pc := 14) C u_3_14 dX3_save_14 ?_
    refine v_aload_n (pc := 17) C 0 rfl rfl dX3_save_17 ?_
    refine gt_8_1 (pc := 18) C u_10_17 dX3_save_18 ((svD g) 8 0 0 1) (rfl) ?_
    refine al_9 (pc := 21) C ⟨by (first | assumption | omega), by (first | assumption | omega)⟩ dX3_save_21 ((svD g) 9 0 0 ((svD g) 8 0 0 1)) (rfl) ?_
    refine v_aload_n (pc := 22) C 1 rfl rfl dX3_save_22 ?_
    refine v_callvV (pc := 23) C cw_RX3_23 (rcv_1 ⟨by (first | assumption | omega), by (first | assumption | omega)⟩) (ct_X1_copyFrom l L (svD g) ((svD g) 9 0 0 ((svD g) 8 0 0 1)) k (by omega) (by omega) (by omega) (by intro i h0 h1; rw [svD_f g (f := 5) (by decide) (by decide)]; exact (hA _ (by omega) (by omega)).2.2.2.2.2.2.2.2.2.1 i h0 h1) (by exact wf_ff (fun f h1 h7 => svD_f g (by omega) (by omega)) (hA k (by omega) (by omega)))) ⟨Nat.le_of_ble_eq_true rfl, Nat.le_of_ble_eq_true rfl⟩ rfl (Nat.le_of_ble_eq_true rfl) ⟨Nat.le_of_ble_eq_true rfl, Nat.le_of_ble_eq_true rfl⟩ rfl dX3_save_23 (fun u9 hP_1 => ?_)
    rw [hP_1]
    clear hP_1 u9
    refine v_aload_n (pc := 26) C 0 rfl rfl dX3_save_26 ?_
    refine v_dup (pc := 27) C rfl dX3_save_27 ?_
    refine gt_8_1 (pc := 28) C u_10_17 dX3_save_28 (svD g 8 0 0 1) (by rw [cpE_f _ _ _ (by decide)]) ?_
    refine v_iconst (pc := 31) C dX3_save_31 ?_
    refine v_iadd (pc := 32) C dX3_save_32 ?_
    refine pt_8_1 (pc := 33) C u_10_17 dX3_save_33 ?_
    exact v_vret (pc := 36) C hr hlk (by rfl) dX3_save_36
  · skip
    refine v_aload_n (pc := 9) C 0 rfl rfl dX3_save_9 ?_
    refine v_callvV (pc := 10) C cw_RX3_20 rcv_8 (ct_X3_dropOldest l L g (by first | assumption | omega)) ⟨Nat.le_of_ble_eq_true rfl, Nat.le_of_ble_eq_true rfl⟩ rfl (Nat.le_of_ble_eq_true rfl) ⟨Nat.le_of_ble_eq_true rfl, Nat.le_of_ble_eq_true rfl⟩ rfl dX3_save_10 (fun u9 hP_2 => ?_)
    rw [hP_2]
    clear hP_2 u9
    refine v_st (g2 := svD g) C (by unfold svD; first | rw [if_pos (by omega)] | rw [if_neg (by omega)]) ?_
    refine v_aload_n (pc := 13) C 0 rfl rfl dX3_save_13 ?_
    refine gt_8_0 (pc := 14) C u_3_14 dX3_save_14 ?_
    refine v_aload_n (pc := 17) C 0 rfl rfl dX3_save_17 ?_
    refine gt_8_1 (pc := 18) C u_10_17 dX3_save_18 ((svD g) 8 0 0 1) (rfl) ?_
    refine al_9 (pc := 21) C ⟨by (first | assumption | omega), by (first | assumption | omega)⟩ dX3_save_21 ((svD g) 9 0 0 ((svD g) 8 0 0 1)) (rfl) ?_
    refine v_aload_n (pc := 22) C 1 rfl rfl dX3_save_22 ?_
    refine v_callvV (pc := 23) C cw_RX3_23 (rcv_1 ⟨by (first | assumption | omega), by (first | assumption | omega)⟩) (ct_X1_copyFrom l L (svD g) ((svD g) 9 0 0 ((svD g) 8 0 0 1)) k (by omega) (by omega) (by omega) (by intro i h0 h1; rw [svD_f g (f := 5) (by decide) (by decide)]; exact (hA _ (by omega) (by omega)).2.2.2.2.2.2.2.2.2.1 i h0 h1) (by exact wf_ff (fun f h1 h7 => svD_f g (by omega) (by omega)) (hA k (by omega) (by omega)))) ⟨Nat.le_of_ble_eq_true rfl, Nat.le_of_ble_eq_true rfl⟩ rfl (Nat.le_of_ble_eq_true rfl) ⟨Nat.le_of_ble_eq_true rfl, Nat.le_of_ble_eq_true rfl⟩ rfl dX3_save_23 (fun u9 hP_3 => ?_)
    rw [hP_3]
    clear hP_3 u9
    refine v_aload_n (pc := 26) C 0 rfl rfl dX3_save_26 ?_
    refine v_dup (pc := 27) C rfl dX3_save_27 ?_
    refine gt_8_1 (pc := 28) C u_10_17 dX3_save_28 (svD g 8 0 0 1) (by rw [cpE_f _ _ _ (by decide)]) ?_
    refine v_iconst (pc := 31) C dX3_save_31 ?_
    refine v_iadd (pc := 32) C dX3_save_32 ?_
    refine pt_8_1 (pc := 33) C u_10_17 dX3_save_33 ?_
    exact v_vret (pc := 36) C hr hlk (by rfl) dX3_save_36
set_option maxHeartbeats 4000000 in
set_option maxRecDepth 100000 in
theorem ct_X3_restoreLatest (l : Launch) (L : Lay) (g : St) (k : Int) (hk : 0 ≤ k ∧ k < 3) (hh : wh g) (hA : wA g) (h8 : 0 < g 8 0 0 1) : Met l yX3_restoreLatest (.code yX3_restoreLatest cX3_restoreLatest 2 none :: wsL_law) { frames := 2, cells := 0, slots := 0, locals := 43 } (va_Pc [.ref (adr L 8 0 0), .ref (adr L 1 k 0)] (HS L g)) (va_Qv (fun (u9 : St) => u9 = (rsG g k)) (fun u t => HS L u t) (Af L)) 0 0 (Af L) := by
  refine ct_mk (by decide +kernel) (Nat.le_of_ble_eq_true rfl) ?_
  intro pp ee ss mm bel mth cx C hr hlk
  show V pp l ee { frames := 2, cells := 0, slots := 0, locals := 43 } ss mm ([.ref (adr L 8 0 0), .ref (adr L 1 k 0)]).toArray bel mth cx 2 L (HH L g) 0 0 _ 0 [(0, .ref (adr L 8 0 0)), (1, .ref (adr L 1 k 0))] []
  obtain ⟨hh1, hh2, hh3⟩ := id hh
  have hs9 := hh2 (g 8 0 0 1 - 1) (by omega) (by omega)
  refine v_aload_n (pc := 0) C 0 rfl rfl dX3_restoreLatest_0 ?_
  refine gt_8_1 (pc := 1) C u_10_17 dX3_restoreLatest_1 (g 8 0 0 1) (rfl) ?_
  refine v_if_gt (pc := 4) C 8 ⟨by (first | assumption | omega), by (first | assumption | omega)⟩ (by decide) dX3_restoreLatest_4 (fun h4 => ?_) (fun h4 => ?_)
  · skip
    refine v_aload_n (pc := 8) C 0 rfl rfl dX3_restoreLatest_8 ?_
    refine v_dup (pc := 9) C rfl dX3_restoreLatest_9 ?_
    refine gt_8_1 (pc := 10) C u_10_17 dX3_restoreLatest_10 (g 8 0 0 1) (rfl) ?_
    refine v_iconst (pc := 13) C dX3_restoreLatest_13 ?_
    refine v_isub (pc := 14) C dX3_restoreLatest_14 ?_
    refine pt_8_1 (pc := 15) C u_10_17 dX3_restoreLatest_15 ?_
    refine v_aload_n (pc := 18) C 1 rfl rfl dX3_restoreLatest_18 ?_
    refine v_aload_n (pc := 19) C 0 rfl rfl dX3_restoreLatest_19 ?_
    refine gt_8_0 (pc := 20) C u_3_14 dX3_restoreLatest_20 ?_
    refine v_aload_n (pc := 23) C 0 rfl rfl dX3_restoreLatest_23 ?_
    refine gt_8_1 (pc := 24) C u_10_17 dX3_restoreLatest_24 ((g 8 0 0 1) - 1) (by simp [up]) ?_
    refine al_9 (pc := 27) C ⟨by (first | assumption | omega), by (first | assumption | omega)⟩ dX3_restoreLatest_27 (g 9 0 0 ((g 8 0 0 1) - 1)) (by simp [up]) ?_
    refine v_callvV (pc := 28) C cw_RX3_23 (rcv_1 ⟨by (first | assumption | omega), by (first | assumption | omega)⟩) (ct_X1_copyFrom l L (up g 8 0 0 1 ((g 8 0 0 1) - 1)) k (g 9 0 0 ((g 8 0 0 1) - 1)) (by first | assumption | omega) (by first | assumption | omega) (by first | assumption | omega) (by intro i h0 h1; rw [up_ff (show (5 : Nat) ≠ 8 by decide)]; exact (hA _ (by omega) (by omega)).2.2.2.2.2.2.2.2.2.1 i h0 h1) (by exact wf_ff (fun f h1 h7 => up_ff (by omega)) (hA _ (by omega) (by omega)))) ⟨Nat.le_of_ble_eq_true rfl, Nat.le_of_ble_eq_true rfl⟩ rfl (Nat.le_of_ble_eq_true rfl) ⟨Nat.le_of_ble_eq_true rfl, Nat.le_of_ble_eq_true rfl⟩ rfl dX3_restoreLatest_28 (fun u9 hP_1 => ?_)
    rw [hP_1]
    clear hP_1 u9
    exact v_vret (pc := 31) C hr hlk (by rfl) dX3_restoreLatest_31
  · skip
    exfalso; omega
set_option maxHeartbeats 4000000 in
set_option maxRecDepth 100000 in
theorem ct_X6_countNumber (l : Launch) (L : Lay) (g : St) (w : Int) (hw : wf g 0 1) (hw2 : 0 ≤ w ∧ w ≤ 11) : Met l yX6_countNumber (.code yX6_countNumber cX6_countNumber 2 (some .int) :: wsL_law) { frames := 4, cells := 0, slots := 0, locals := 89 } (va_Pc [.ref (adr L 0 0 0), .int (iI w)] (HS L g)) (va_Qi (fun (r9 : Int32) (u9 : St) => r9 = iI (ctN g w) ∧ u9 = g) (fun u t => HS L u t) (Af L)) 0 0 (Af L) := by
  refine ct_mk (by decide +kernel) (Nat.le_of_ble_eq_true rfl) ?_
  intro pp ee ss mm bel mth cx C hr hlk
  show V pp l ee { frames := 4, cells := 0, slots := 0, locals := 89 } ss mm ([.ref (adr L 0 0 0), .int (iI w)]).toArray bel mth cx 2 L (HH L g) 0 0 _ 0 [(0, .ref (adr L 0 0 0)), (1, .int (iI w))] []
  refine v_iload_n (pc := 0) C 1 rfl rfl dX6_countNumber_0 ?_
  refine v_bipush (pc := 1) C rfl dX6_countNumber_1 ?_
  refine v_icmp_ne (pc := 3) C 16 ⟨by (first | assumption | omega | (simp [bl, up] <;> omega)), by (first | assumption | omega | (simp [bl, up] <;> omega))⟩ ⟨by (first | assumption | omega | (simp [bl, up] <;> omega)), by (first | assumption | omega | (simp [bl, up] <;> omega))⟩ (by decide) dX6_countNumber_3 (fun h3 => ?_) (fun h3 => ?_)
  · skip
    refine v_aload_n (pc := 16) C 0 rfl rfl dX6_countNumber_16 ?_
    refine gt_0_0 (pc := 17) C u_1_13 dX6_countNumber_17 ?_
    refine v_iload_n (pc := 20) C 1 rfl rfl dX6_countNumber_20 ?_
    refine v_calliV (pc := 21) C cw_RX6_242 (rcv_1 ⟨by (first | assumption | omega | (simp [bl, up] <;> omega)), by (first | assumption | omega | (simp [bl, up] <;> omega))⟩) (ct_X1_number l L g 0 1 w (by first | assumption | omega | (simp [bl, up] <;> omega)) (by first | assumption | omega | (simp [bl, up] <;> omega)) (by first | assumption | omega | (simp [bl, up] <;> omega)) (by first | assumption | omega | (simp [bl, up] <;> omega))) ⟨Nat.le_of_ble_eq_true rfl, Nat.le_of_ble_eq_true rfl⟩ rfl (Nat.le_of_ble_eq_true rfl) ⟨Nat.le_of_ble_eq_true rfl, Nat.le_of_ble_eq_true rfl⟩ rfl dX6_countNumber_21 (fun r9 u9 hP_1 => ?_)
    obtain ⟨hP_1, hP_1b⟩ := hP_1
    rw [hP_1, hP_1b]
    clear hP_1 hP_1b r9 u9
    exact v_iret (pc := 24) C hr hlk (⟨congrArg iI (by unfold ctN; first | rw [if_pos (by omega)] | rw [if_neg (by omega)]), rfl⟩) dX6_countNumber_24
  · skip
    refine v_aload_n (pc := 6) C 0 rfl rfl dX6_countNumber_6 ?_
    refine gt_0_1 (pc := 7) C u_1_17 dX6_countNumber_7 ?_
    refine gt_8_1 (pc := 10) C u_7_8 dX6_countNumber_10 (g 8 0 0 1) (rfl) ?_
    refine v_goto (pc := 13) C 24 (by decide) dX6_countNumber_13 ?_
    exact v_iret (pc := 24) C hr hlk (⟨congrArg iI (by unfold ctN; first | rw [if_pos (by omega)] | rw [if_neg (by omega)]), rfl⟩) dX6_countNumber_24
set_option maxHeartbeats 4000000 in
set_option maxRecDepth 100000 in
theorem ct_X6_ballNumber (l : Launch) (L : Lay) (g : St) (t w : Int) (hw : wf g 0 1) (ht : 0 ≤ t ∧ t ≤ 100) (hw2 : 0 ≤ w ∧ w ≤ 2) : Met l yX6_ballNumber (.code yX6_ballNumber cX6_ballNumber 4 (some .int) :: wsL_law) { frames := 2, cells := 0, slots := 0, locals := 46 } (va_Pc [.ref (adr L 0 0 0), .int (iI t), .int (iI w)] (HS L g)) (va_Qi (fun (r9 : Int32) (u9 : St) => r9 = iI (bnN g t w) ∧ u9 = (bnG g t w)) (fun u t => HS L u t) (Af L)) 0 0 (Af L) := by
  refine ct_mk (by decide +kernel) (Nat.le_of_ble_eq_true rfl) ?_
  intro pp ee ss mm bel mth cx C hr hlk
  show V pp l ee { frames := 2, cells := 0, slots := 0, locals := 46 } ss mm ([.ref (adr L 0 0 0), .int (iI t), .int (iI w)]).toArray bel mth cx 4 L (HH L g) 0 0 _ 0 [(0, .ref (adr L 0 0 0)), (1, .int (iI t)), (2, .int (iI w))] []
  obtain ⟨hS0, hS1, hS2, hB0, hB1, hB2, hCl, hN, hPl, hPm, hPj, hEc, hSo⟩ := id hw
  refine v_iload_n (pc := 0) C 2 rfl rfl dX6_ballNumber_0 ?_
  refine v_iconst (pc := 1) C dX6_ballNumber_1 ?_
  refine v_icmp_ne (pc := 2) C 24 ⟨by (first | assumption | omega | (simp [bl, up] <;> omega)), by (first | assumption | omega | (simp [bl, up] <;> omega))⟩ ⟨by (first | assumption | omega | (simp [bl, up] <;> omega)), by (first | assumption | omega | (simp [bl, up] <;> omega))⟩ (by decide) dX6_ballNumber_2 (fun h2 => ?_) (fun h2 => ?_)
  · skip
    refine v_aload_n (pc := 24) C 0 rfl rfl dX6_ballNumber_24 ?_
    refine gt_0_5 (pc := 25) C u_2_4 dX6_ballNumber_25 ?_
    refine v_aload_n (pc := 28) C 0 rfl rfl dX6_ballNumber_28 ?_
    refine gt_0_0 (pc := 29) C u_1_13 dX6_ballNumber_29 ?_
    refine gt_1_4 (pc := 32) C ⟨by (first | assumption | omega | (simp [bl, up] <;> omega)), by (first | assumption | omega | (simp [bl, up] <;> omega))⟩ u_13_3 dX6_ballNumber_32 ?_
    refine v_callvV (pc := 35) C cw_RX6_248 (rcv_3 ⟨by (first | assumption | omega | (simp [bl, up] <;> omega)), by (first | assumption | omega | (simp [bl, up] <;> omega))⟩) (ct_X0_copyFrom l L g 9 0 (by first | assumption | omega | (simp [bl, up] <;> omega)) (by first | assumption | omega | (simp [bl, up] <;> omega)) (by first | assumption | omega | (simp [bl, up] <;> omega)) (by first | assumption | omega | (simp [bl, up] <;> omega)) (by first | assumption | omega | (simp [bl, up] <;> omega))) ⟨Nat.le_of_ble_eq_true rfl, Nat.le_of_ble_eq_true rfl⟩ rfl (Nat.le_of_ble_eq_true rfl) ⟨Nat.le_of_ble_eq_true rfl, Nat.le_of_ble_eq_true rfl⟩ rfl dX6_ballNumber_35 (fun u9 hP_1 => ?_)
    rw [hP_1]
    clear hP_1 u9
    refine v_iconst (pc := 38) C dX6_ballNumber_38 ?_
    refine v_istore_n (pc := 39) C [(3, .int (iI 0)), (0, .ref (adr L 0 0 0)), (1, .int (iI t)), (2, .int (iI w))] rfl (by decide) rfl dX6_ballNumber_39 ?_
    have lb40 : ∀ (n9 : Nat) (i : Int), (0 ≤ i ∧ i ≤ t) → (t - i).toNat < n9 → V pp l ee { frames := 2, cells := 0, slots := 0, locals := 46 } ss mm ([.ref (adr L 0 0 0), .int (iI t), .int (iI w)]).toArray bel mth cx 4 L (HH L (sbG g i)) 0 0 (MQ bel (va_Qi (fun (r9 : Int32) (u9 : St) => r9 = iI (bnN g t w) ∧ u9 = (bnG g t w)) (fun u t => HS L u t) (Af L)) ([.ref (adr L 0 0 0), .int (iI t), .int (iI w)]).toArray ss 0 0 (Af L)) 40 [(0, .ref (adr L 0 0 0)), (1, .int (iI t)), (2, .int (iI w)), (3, .int (iI i))] [] := by
      intro n9
      induction n9 with
      | zero => intro i hi hm9; exact absurd hm9 (Nat.not_lt_zero _)
      | succ n9 ih9 =>
        intro i hi hm9
        have hbw := bwalk_in (last := g 2 0 0 0) (by omega) (q := (g 3 0 0 0, g 3 0 0 2)) hB0 hB2 (g 3 0 0 1 * i).toNat
        have f2 := sbG_f g i (f := 2) (by decide)
        have ih40 := ih9
        refine v_iload_n (pc := 40) C 3 rfl rfl dX6_ballNumber_40 ?_
        refine v_iload_n (pc := 41) C 1 rfl rfl dX6_ballNumber_41 ?_
        refine v_icmp_ge (pc := 42) C 65 ⟨by (first | assumption | omega | (simp [bl, up] <;> omega)), by (first | assumption | omega | (simp [bl, up] <;> omega))⟩ ⟨by (first | assumption | omega | (simp [bl, up] <;> omega)), by (first | assumption | omega | (simp [bl, up] <;> omega))⟩ (by decide) dX6_ballNumber_42 (fun h42 => ?_) (fun h42 => ?_)
        · skip
          refine v_st (g2 := sbG g t) C (by rw [show i = t by omega]) ?_
          refine v_iload_n (pc := 65) C 2 rfl rfl dX6_ballNumber_65 ?_
          refine v_if_ne (pc := 66) C 79 ⟨by (first | assumption | omega | (simp [bl, up] <;> omega)), by (first | assumption | omega | (simp [bl, up] <;> omega))⟩ (by decide) dX6_ballNumber_66 (fun h66 => ?_) (fun h66 => ?_)
          · skip
            refine v_aload_n (pc := 79) C 0 rfl rfl dX6_ballNumber_79 ?_
            refine gt_0_5 (pc := 80) C u_2_4 dX6_ballNumber_80 ?_
            refine v_calliV (pc := 83) C cw_RX6_254 (rcv_3 ⟨by (first | assumption | omega | (simp [bl, up] <;> omega)), by (first | assumption | omega | (simp [bl, up] <;> omega))⟩) (ct_X0_rightNumber l L (sbG g t) 9 (by first | assumption | omega | (simp [bl, up] <;> omega)) (by first | assumption | omega | (simp [bl, up] <;> omega)) (by rw [sbG_92]; exact (bwalk_in (last := g 2 0 0 0) (by omega) (q := (g 3 0 0 0, g 3 0 0 2)) hB0 hB2 _).2)) ⟨Nat.le_of_ble_eq_true rfl, Nat.le_of_ble_eq_true rfl⟩ rfl (Nat.le_of_ble_eq_true rfl) ⟨Nat.le_of_ble_eq_true rfl, Nat.le_of_ble_eq_true rfl⟩ rfl dX6_ballNumber_83 (fun r9 u9 hP_2 => ?_)
            obtain ⟨hP_2, hP_2b⟩ := hP_2
            rw [hP_2, hP_2b]
            clear hP_2 hP_2b r9 u9
            exact v_iret (pc := 86) C hr hlk (⟨congrArg iI (by unfold bnN; rw [if_neg (by omega)]; first | (rw [if_pos (by omega)]) | (rw [if_neg (by omega), sbG_92])), by unfold bnG; first | rw [if_pos (by omega)] | rw [if_neg (by omega)]⟩) dX6_ballNumber_86
          · skip
            refine v_aload_n (pc := 69) C 0 rfl rfl dX6_ballNumber_69 ?_
            refine gt_0_5 (pc := 70) C u_2_4 dX6_ballNumber_70 ?_
            refine gt_3_0 (pc := 73) C ⟨by (first | assumption | omega | (simp [bl, up] <;> omega)), by (first | assumption | omega | (simp [bl, up] <;> omega))⟩ u_13_4 dX6_ballNumber_73 ((bwN g t).1) (sbG_90 g t) ?_
            refine v_goto (pc := 76) C 86 (by decide) dX6_ballNumber_76 ?_
            exact v_iret (pc := 86) C hr hlk (⟨congrArg iI (by unfold bnN; rw [if_neg (by omega)]; first | (rw [if_pos (by omega)]) | (rw [if_neg (by omega), sbG_92])), by unfold bnG; first | rw [if_pos (by omega)] | rw [if_neg (by omega)]⟩) dX6_ballNumber_86
        · skip
          refine v_aload_n (pc := 45) C 0 rfl rfl dX6_ballNumber_45 ?_
          refine gt_0_5 (pc := 46) C u_2_4 dX6_ballNumber_46 ?_
          refine v_aload_n (pc := 49) C 0 rfl rfl dX6_ballNumber_49 ?_
          refine gt_0_0 (pc := 50) C u_1_13 dX6_ballNumber_50 ?_
          refine v_calliV (pc := 53) C cw_RX6_64 (rcv_1 ⟨by (first | assumption | omega | (simp [bl, up] <;> omega)), by (first | assumption | omega | (simp [bl, up] <;> omega))⟩) (ct_X1_lastPlace l L (sbG g i) 0 (by first | assumption | omega | (simp [bl, up] <;> omega))) ⟨Nat.le_of_ble_eq_true rfl, Nat.le_of_ble_eq_true rfl⟩ rfl (Nat.le_of_ble_eq_true rfl) ⟨Nat.le_of_ble_eq_true rfl, Nat.le_of_ble_eq_true rfl⟩ rfl dX6_ballNumber_53 (fun r9 u9 hP_3 => ?_)
          obtain ⟨hP_3, hP_3b⟩ := hP_3
          rw [hP_3, hP_3b]
          clear hP_3 hP_3b r9 u9
          refine v_callvV (pc := 56) C cw_RX6_251 (rcv_3 ⟨by (first | assumption | omega | (simp [bl, up] <;> omega)), by (first | assumption | omega | (simp [bl, up] <;> omega))⟩) (ct_X0_goTurn l L (sbG g i) 9 ((sbG g i) 2 0 0 0) (by first | assumption | omega | (simp [bl, up] <;> omega)) (by first | assumption | omega | (simp [bl, up] <;> omega)) (by rw [f2, sbG_90]; exact hbw.1) (by rw [f2]; omega) (by rw [sbG_92]; exact hbw.2) (by rw [sbG_91]; omega)) ⟨Nat.le_of_ble_eq_true rfl, Nat.le_of_ble_eq_true rfl⟩ rfl (Nat.le_of_ble_eq_true rfl) ⟨Nat.le_of_ble_eq_true rfl, Nat.le_of_ble_eq_true rfl⟩ rfl dX6_ballNumber_56 (fun u9 hP_4 => ?_)
          rw [hP_4]
          clear hP_4 u9
          refine v_iinc (pc := 59) C 3 [(3, .int (iI (i + 1))), (0, .ref (adr L 0 0 0)), (1, .int (iI t)), (2, .int (iI w))] rfl (by decide) rfl dX6_ballNumber_59 ?_
          refine v_goto (pc := 62) C 40 (by decide) dX6_ballNumber_62 ?_
          refine v_lsub [1, 2, 3, 0] rfl ?_
          refine v_st (g2 := sbG g (i + 1)) C (by rw [sbG_90, sbG_91, sbG_92, f2]; exact sbG_s g hi.1 (by omega)) ?_
          exact ih40 (i + 1) (by omega) (by omega)
    refine v_lsub [1, 2, 3, 0] rfl ?_
    refine v_st (g2 := sbG g 0) C (by clear hw hPl hPm hPj hEc hSo; have h0 : bwN g 0 = (g 3 0 0 0, g 3 0 0 2) := (by unfold bwN; simp [bwalk]); unfold sbG; rw [h0]; funext f' k' j' i'; simp only [bl, up]; grind) ?_
    exact lb40 _ 0 (by omega) (Nat.lt_succ_self _)
  · skip
    refine v_aload_n (pc := 5) C 0 rfl rfl dX6_ballNumber_5 ?_
    refine gt_0_0 (pc := 6) C u_1_13 dX6_ballNumber_6 ?_
    refine gt_1_4 (pc := 9) C ⟨by (first | assumption | omega | (simp [bl, up] <;> omega)), by (first | assumption | omega | (simp [bl, up] <;> omega))⟩ u_13_3 dX6_ballNumber_9 ?_
    refine v_iload_n (pc := 12) C 1 rfl rfl dX6_ballNumber_12 ?_
    refine v_aload_n (pc := 13) C 0 rfl rfl dX6_ballNumber_13 ?_
    refine gt_0_0 (pc := 14) C u_1_13 dX6_ballNumber_14 ?_
    refine v_calliV (pc := 17) C cw_RX6_64 (rcv_1 ⟨by (first | assumption | omega | (simp [bl, up] <;> omega)), by (first | assumption | omega | (simp [bl, up] <;> omega))⟩) (ct_X1_lastPlace l L g 0 (by first | assumption | omega | (simp [bl, up] <;> omega))) ⟨Nat.le_of_ble_eq_true rfl, Nat.le_of_ble_eq_true rfl⟩ rfl (Nat.le_of_ble_eq_true rfl) ⟨Nat.le_of_ble_eq_true rfl, Nat.le_of_ble_eq_true rfl⟩ rfl dX6_ballNumber_17 (fun r9 u9 hP_5 => ?_)
    obtain ⟨hP_5, hP_5b⟩ := hP_5
    rw [hP_5, hP_5b]
    clear hP_5 hP_5b r9 u9
    refine v_calliV (pc := 20) C cw_RX6_245 (rcv_3 ⟨by (first | assumption | omega | (simp [bl, up] <;> omega)), by (first | assumption | omega | (simp [bl, up] <;> omega))⟩) (ct_X0_unfoldedPlaceIn l L g 0 t (g 2 0 0 0) (by first | assumption | omega | (simp [bl, up] <;> omega)) (by first | assumption | omega | (simp [bl, up] <;> omega)) (by first | assumption | omega | (simp [bl, up] <;> omega)) (by first | assumption | omega | (simp [bl, up] <;> omega)) (by first | assumption | omega | (simp [bl, up] <;> omega)) (by first | assumption | omega | (simp [bl, up] <;> omega)) (by first | assumption | omega | (simp [bl, up] <;> omega))) ⟨Nat.le_of_ble_eq_true rfl, Nat.le_of_ble_eq_true rfl⟩ rfl (Nat.le_of_ble_eq_true rfl) ⟨Nat.le_of_ble_eq_true rfl, Nat.le_of_ble_eq_true rfl⟩ rfl dX6_ballNumber_20 (fun r9 u9 hP_6 => ?_)
    obtain ⟨hP_6, hP_6b⟩ := hP_6
    rw [hP_6, hP_6b]
    clear hP_6 hP_6b r9 u9
    exact v_iret (pc := 23) C hr hlk (⟨congrArg iI (by unfold bnN; rw [if_pos (by omega)]), by unfold bnG; first | rw [if_pos (by omega)] | rw [if_neg (by omega)]⟩) dX6_ballNumber_23
