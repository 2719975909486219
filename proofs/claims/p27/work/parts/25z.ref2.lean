/-! a run of orders -/
theorem cn_count {α : Type} (P : Int → Bool) (f : Nat → α) (Q : α → Bool) (h : ∀ i : Nat, Q (f i) = P i) : ∀ n : Nat, cn P n = ((((List.range n).map f).countP Q : Nat) : Int)
  | 0 => rfl
  | n + 1 => by
    rw [List.range_succ, List.map_append, List.countP_append, cn, cn_count P f Q h n]
    simp only [List.map_cons, List.map_nil, List.countP_cons, List.countP_nil, h n]
    split <;> simp_all
abbrev ofP (p : Int) : Int × Int × Int × Int × Int → Bool := fun e => decide (e.1 = p)
theorem eOf_els (g : St) (k p : Int) : eOf g k p = (((els g k).countP (ofP p) : Nat) : Int) := cn_count (pOf g k p) (fun i : Nat => ev g k i) (ofP p) (fun i => rfl) _
theorem els_x {g u : St} {k : Int} (h1 : u 1 k 0 2 = g 1 k 0 2) (h5 : u 5 = g 5) (h7 : u 7 = g 7) : els u k = els g k := by
  unfold els ev eF; rw [h1, h5, h7]
def c6 (g : St) : Prop := ∀ p, 0 ≤ p → p < 4 → eOf g 0 p ≤ 6
theorem c6_els {g u : St} (h : els u 0 = els g 0) (h6 : c6 g) : c6 u := fun p h0 h4 => by rw [eOf_els, h, ← eOf_els]; exact h6 p h0 h4
theorem c_sum (g : St) : ∀ n : Nat, (∀ e : Int, 0 ≤ e → e < n → 0 ≤ g 7 0 (g 5 0 0 e) 0 ∧ g 7 0 (g 5 0 0 e) 0 < 4) → cn (pOf g 0 0) n + cn (pOf g 0 1) n + cn (pOf g 0 2) n + cn (pOf g 0 3) n = n
  | 0, _ => by simp [cn]
  | n + 1, h => by
    have ih := c_sum g n (fun e h0 h1 => h e h0 (by omega))
    have hl := h n (by omega) (by omega)
    simp only [cn]
    simp only [pOf, decide_eq_true_eq]
    (repeat' split) <;> omega
theorem c6_room {g : St} {d : Int} (h : wf g 0 d) (h6 : c6 g) : ∀ p, 0 ≤ p → p < 4 → eOf g 0 p + 2 ≤ 6 → g 1 0 0 2 + 2 ≤ 24 := by
  intro p h0 h4 hp
  obtain ⟨hS0, hS1, hS2, hB0, hB1, hB2, hCl, hN, hPl, hPm, hPj, hEc, hSo⟩ := h
  have hs := c_sum g (g 1 0 0 2).toNat (fun e e0 e1 => by have := hEc e e0 (by omega); unfold okE at this; exact this.1)
  have a0 : cn (pOf g 0 0) (g 1 0 0 2).toNat ≤ 6 := h6 0 (by decide) (by decide)
  have a1 : cn (pOf g 0 1) (g 1 0 0 2).toNat ≤ 6 := h6 1 (by decide) (by decide)
  have a2 : cn (pOf g 0 2) (g 1 0 0 2).toNat ≤ 6 := h6 2 (by decide) (by decide)
  have a3 : cn (pOf g 0 3) (g 1 0 0 2).toNat ≤ 6 := h6 3 (by decide) (by decide)
  have hp2 : cn (pOf g 0 p) (g 1 0 0 2).toNat + 2 ≤ 6 := hp
  have hq : p = 0 ∨ p = 1 ∨ p = 2 ∨ p = 3 := by omega
  rcases hq with rfl | rfl | rfl | rfl <;> omega
theorem eOf_ad {g : St} {d p w y a q : Int} (hw : wf g 0 d) (hn : g 1 0 0 2 < 24) (ha : 0 ≤ a ∧ a ≤ g 1 0 0 2) : eOf (adG g 0 p w y a) 0 q = eOf g 0 q + (if p = q then 1 else 0) := by
  rw [eOf_els, eOf_els, els_ad hw hn ha, List.countP_append, List.countP_cons]
  have e := congrArg (List.countP (ofP q)) (List.take_append_drop a.toNat (els g 0))
  rw [List.countP_append] at e
  rw [← e]
  rw [show ofP q (evn g 0 p w y) = decide (p = q) from rfl]
  by_cases hq : p = q
  · rw [if_pos hq, decide_eq_true hq, if_pos rfl]; omega
  · rw [if_neg hq, decide_eq_false hq, if_neg (by decide)]; omega
theorem se_ok {g u : St} {p w z : Int} (hw : wf g 0 1) (h6 : c6 g) (hp : 0 ≤ p ∧ p < 4) (hw9 : 0 ≤ w ∧ w ≤ 9) (h : se g u 0 p w z) : wf u 0 1 ∧ c6 u ∧ ∀ f : Nat, 8 ≤ f → u f = g f := by
  rcases h with ⟨h1, -, rfl⟩ | ⟨h1, -, a, b, ca, cb, rfl⟩
  · exact ⟨wf_refused hw, c6_els (els_x (up_i (by decide)) (up_ff (by decide)) (up_ff (by decide))) h6, fun f hf => up_ff (by omega)⟩
  · have hr := c6_room hw h6 p hp.1 hp.2 h1
    have w0 : wf (seG g 0 p) 0 1 := wf_up6 (by decide) hw
    have n0 : seG g 0 p 1 0 0 2 = g 1 0 0 2 := by rw [seG_f _ _ _ (by decide)]
    have w1 : wf (adG (seG g 0 p) 0 p w 0 a) 0 1 := adG_wf w0 hp hw9 (by decide) (by omega) ca
    have n1 : adG (seG g 0 p) 0 p w 0 a 1 0 0 2 = g 1 0 0 2 + 1 := by rw [ad1, if_pos rfl, n0]
    have w2 := adG_wf w1 hp hw9 (by decide) (by omega) cb
    refine ⟨w2, fun q h0 h4 => ?_, fun f hf => by rw [adf _ _ _ _ _ _ (by omega) (by omega) (by omega), adf _ _ _ _ _ _ (by omega) (by omega) (by omega), seG_f _ _ _ (by omega)]⟩
    rw [eOf_ad w1 (by omega) cb.1, eOf_ad w0 (by omega) ca.1]
    have e0 : eOf (seG g 0 p) 0 q = eOf g 0 q := by rw [eOf_els, eOf_els, els_x (by rw [seG_f _ _ _ (by decide)]) (seG_f _ _ _ (by decide)) (seG_f _ _ _ (by decide))]
    rw [e0]
    have := h6 q h0 h4
    by_cases hq : p = q
    · subst hq; rw [if_pos rfl]; omega
    · rw [if_neg hq]; omega
theorem mv_ok {g : St} {p b : Int} (hw : wf g 0 1) (h6 : c6 g) : wf (mvG g 0 p b) 0 1 ∧ c6 (mvG g 0 p b) ∧ ∀ f : Nat, 8 ≤ f → mvG g 0 p b f = g f := by
  unfold mvG; split
  · exact ⟨wf_refused hw, c6_els (els_x (up_i (by decide)) (up_ff (by decide)) (up_ff (by decide))) h6, fun f hf => up_ff (by omega)⟩
  · rename_i hm
    exact ⟨wf_place (by unfold mvO at hm; omega) hw, c6_els (els_x (up_f (by decide)) (up_ff (by decide)) (up_ff (by decide))) h6, fun f hf => up_ff (by omega)⟩
theorem tr_ok {g u : St} {z : Int} (hw : wf g 0 1) (hc : g 1 0 0 0 < 100000) (h6 : c6 g) (h : tr g u 0 z) : wf u 0 1 ∧ u 1 0 0 0 = g 1 0 0 0 + 1 ∧ c6 u ∧ ∀ f : Nat, 8 ≤ f → u f = g f := by
  have h1 := tr_wf hw hc h
  obtain ⟨b, hb, -, -, -, hd⟩ := h
  have e1 : els (caN (tbG g 0) 0 b.toNat).1 0 = els g 0 := els_x (by rw [caN_f _ _ (by decide) (by decide), tbG_2]) (by rw [caN_f _ _ (by decide) (by decide), tbG_f _ _ (by decide) (by decide)]) (by rw [caN_f _ _ (by decide) (by decide), tbG_f _ _ (by decide) (by decide)])
  have n1 : (caN (tbG g 0) 0 b.toNat).1 1 0 0 2 = g 1 0 0 2 := by rw [caN_f _ _ (by decide) (by decide), tbG_2]
  have e2 := els_drp (by omega) hd
  refine ⟨h1.1, h1.2, fun p h0 h4 => ?_, fun f hf => ?_⟩
  · rw [eOf_els, e2, e1]
    have := (List.drop_sublist b.toNat (els g 0)).countP_le (p := ofP p)
    have h2 := h6 p h0 h4
    rw [eOf_els] at h2; omega
  · obtain ⟨v, ⟨h2, -⟩, rfl⟩ := hd
    rw [up_ff (by omega)]
    funext k j x
    rw [h2 f k j x (by omega), caN_f _ _ (by omega) (by omega), tbG_f _ _ (by omega) (by omega)]
theorem trs_ok : ∀ (n : Nat) {g u : St} {z : Int}, wf g 0 1 → c6 g → g 1 0 0 0 + n ≤ 100000 → trs 0 n g u z → wf u 0 1 ∧ u 1 0 0 0 = g 1 0 0 0 + n ∧ c6 u ∧ ∀ f : Nat, 8 ≤ f → u f = g f
  | 0, g, u, z, hw, h6, _, h => by
    obtain ⟨rfl, -⟩ := h; exact ⟨hw, by simp, h6, fun _ _ => rfl⟩
  | n + 1, g, u, z, hw, h6, hc, h => by
    obtain ⟨v, y, x, h1, h2, -⟩ := h
    have a := trs_ok n hw h6 (by omega) h1
    have b := tr_ok a.1 (by omega) a.2.2.1 h2
    exact ⟨b.1, by rw [b.2.1, a.2.1]; omega, b.2.2.1, fun f hf => (b.2.2.2 f hf).trans (a.2.2.2 f hf)⟩
/-- an order's numbers are what they must be -/
def vC (g : St) (i : Int) : Prop := (cdA g i = 99 → (0 ≤ cdA g (i + 1) - 48 ∧ cdA g (i + 1) - 48 < 4) ∧ (0 ≤ cdA g (i + 3) - 48 ∧ cdA g (i + 3) - 48 ≤ 9)) ∧ (cdA g i = 109 → (0 ≤ cdA g (i + 1) - 48 ∧ cdA g (i + 1) - 48 < 4) ∧ (-9 ≤ oSt g i ∧ oSt g i ≤ 9)) ∧ (cdA g i ≠ 99 → cdA g i ≠ 109 → 1 ≤ oTu g i ∧ oTu g i ≤ 99)
theorem do1_ok {g u : St} {i z : Int} (hw : wf g 0 1) (h6 : c6 g) (hv : vC g i) (h : do1 g u i z) : wf u 0 1 ∧ c6 u ∧ (∀ f : Nat, 8 ≤ f → u f = g f) ∧ (z = 0 ∨ z = 1) := by
  rcases h with ⟨h1, y, h2, rfl⟩ | ⟨h1, rfl, rfl⟩ | ⟨⟨h1, h1b⟩, ⟨-, rfl, rfl⟩ | ⟨h2, rfl, y, h3⟩⟩
  · have a := hv.1 h1
    have b := se_ok hw h6 a.1 a.2 h2
    exact ⟨b.1, b.2.1, b.2.2, by split <;> simp⟩
  · have b := mv_ok (p := cdA g (i + 1) - 48) (b := oSt g i) hw h6
    exact ⟨b.1, b.2.1, b.2.2, by split <;> simp⟩
  · exact ⟨hw, h6, fun _ _ => rfl, Or.inl rfl⟩
  · have a := hv.2.2 h1 h1b
    have b := trs_ok _ hw h6 (by omega) h3
    exact ⟨b.1, b.2.2.1, b.2.2.2, Or.inr rfl⟩
def rnC : Nat → St → Int → St → Int → Prop
  | 0, g, _, u, z => u = g ∧ z = 0
  | n + 1, g, i, u, z => (g 12 0 0 1 ≤ i ∧ u = g ∧ z = 0) ∨ (i < g 12 0 0 1 ∧ ¬ (i = 0 ∨ cdA g (i - 1) = 59) ∧ rnC n g (i + 1) u z) ∨ (i < g 12 0 0 1 ∧ (i = 0 ∨ cdA g (i - 1) = 59) ∧ ∃ v b, do1 g v i b ∧ ((b = 0 ∧ u = v ∧ z = 0) ∨ (b = 1 ∧ ∃ y, rnC n v (i + 1) u y ∧ z = y + 1)))
theorem rnC_e {g : St} {i : Int} (h : g 12 0 0 1 ≤ i) : ∀ n, rnC n g i g 0
  | 0 => ⟨rfl, rfl⟩
  | n + 1 => Or.inl ⟨h, rfl, rfl⟩
theorem cdA_eq {g u : St} (h12 : u 12 = g 12) (h13 : u 13 = g 13) (i : Int) : cdA u i = cdA g i := by unfold cdA; rw [h12, h13]
theorem vC_of {g u : St} (ht : wt g) (ha : stN (g 13 0 0) (g 12 0 0 1).toNat = 9 ∨ stN (g 13 0 0) (g 12 0 0 1).toNat = 8) (h12 : u 12 = g 12) (h13 : u 13 = g 13) {i : Int} (h0 : 0 ≤ i) (hi : i < g 12 0 0 1) (hs : i = 0 ∨ cdA u (i - 1) = 59) : vC u i := by
  rw [cdA_eq h12 h13] at hs
  have := ps_ok ht ha h0 hi hs
  unfold vC oSt oTu at *
  simp only [cdA_eq h12 h13]
  exact this

theorem svG_ff {g : St} (hh : wh g) {f : Nat} (h : 8 ≤ f) (h8 : f ≠ 8) (h9 : f ≠ 9) : svG g 0 f = g f := by
  unfold svG; rw [up_ff h8, cpE_f _ _ _ h, svD_f g h8 h9]

