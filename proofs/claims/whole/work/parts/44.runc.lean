/-! a run of orders -/
theorem cn_count {α : Type} (P : Int → Bool) (f : Nat → α) (Q : α → Bool) (h : ∀ i : Nat, Q (f i) = P i) : ∀ n : Nat, cn P n = ((((List.range n).map f).countP Q : Nat) : Int)
  | 0 => rfl
  | n + 1 => by
    rw [List.range_succ, List.map_append, List.countP_append, cn, cn_count P f Q h n]
    simp only [List.map_cons, List.map_nil, List.countP_cons, List.countP_nil, h n]
    split <;> simp_all
abbrev ofP (p : Int) : Int × Int × Int × Int × Int → Bool := fun e => decide (e.1 = p)
theorem eOf_els (g : St) (k p : Int) : eOf g k p = (((els g k).countP (ofP p) : Nat) : Int) := cn_count (pOf g k p) (fun i : Nat => ev g k i) (ofP p) (fun i => rfl) _
theorem els_x {g u : St} {k : Int} (h1 : u 1 k 0 2 = g 1 k 0 2) (h5 : u 5 = g 5) (h7 : u 7 = g 7) : els u k = els g k := by
  unfold els ev eF; rw [h1, h5, h7]
def c6 (g : St) : Prop := ∀ p, 0 ≤ p → p < 4 → eOf g 0 p ≤ 6
theorem c6_els {g u : St} (h : els u 0 = els g 0) (h6 : c6 g) : c6 u := fun p h0 h4 => by rw [eOf_els, h, ← eOf_els]; exact h6 p h0 h4
theorem c_sum (g : St) : ∀ n : Nat, (∀ e : Int, 0 ≤ e → e < n → 0 ≤ g 7 0 (g 5 0 0 e) 0 ∧ g 7 0 (g 5 0 0 e) 0 < 4) → cn (pOf g 0 0) n + cn (pOf g 0 1) n + cn (pOf g 0 2) n + cn (pOf g 0 3) n = n
  | 0, _ => by simp [cn]
  | n + 1, h => by
    have ih := c_sum g n (fun e h0 h1 => h e h0 (by omega))
    have hl := h n (by omega) (by omega)
    simp only [cn]
    simp only [pOf, decide_eq_true_eq]
    (repeat' split) <;> omega
theorem c6_room {g : St} {d : Int} (h : wf g 0 d) (h6 : c6 g) : ∀ p, 0 ≤ p → p < 4 → eOf g 0 p + 2 ≤ 6 → g 1 0 0 2 + 2 ≤ 24 := by
  intro p h0 h4 hp
  obtain ⟨hS0, hS1, hS2, hB0, hB1, hB2, hCl, hN, hPl, hPm, hPj, hEc, hSo⟩ := h
  have hs := c_sum g (g 1 0 0 2).toNat (fun e e0 e1 => by have := hEc e e0 (by omega); unfold okE at this; exact this.1)
  have a0 : cn (pOf g 0 0) (g 1 0 0 2).toNat ≤ 6 := h6 0 (by decide) (by decide)
  have a1 : cn (pOf g 0 1) (g 1 0 0 2).toNat ≤ 6 := h6 1 (by decide) (by decide)
  have a2 : cn (pOf g 0 2) (g 1 0 0 2).toNat ≤ 6 := h6 2 (by decide) (by decide)
  have a3 : cn (pOf g 0 3) (g 1 0 0 2).toNat ≤ 6 := h6 3 (by decide) (by decide)
  have hp2 : cn (pOf g 0 p) (g 1 0 0 2).toNat + 2 ≤ 6 := hp
  have hq : p = 0 ∨ p = 1 ∨ p = 2 ∨ p = 3 := by omega
  rcases hq with rfl | rfl | rfl | rfl <;> omega
theorem eOf_ad {g : St} {d p w y a q : Int} (hw : wf g 0 d) (hn : g 1 0 0 2 < 24) (ha : 0 ≤ a ∧ a ≤ g 1 0 0 2) : eOf (adG g 0 p w y a) 0 q = eOf g 0 q + (if p = q then 1 else 0) := by
  rw [eOf_els, eOf_els, els_ad hw hn ha, List.countP_append, List.countP_cons]
  have e := congrArg (List.countP (ofP q)) (List.take_append_drop a.toNat (els g 0))
  rw [List.countP_append] at e
  rw [← e]
  rw [show ofP q (evn g 0 p w y) = decide (p = q) from rfl]
  by_cases hq : p = q
  · rw [if_pos hq, decide_eq_true hq, if_pos rfl]; omega
  · rw [if_neg hq, decide_eq_false hq, if_neg (by decide)]; omega
theorem se_ok {g u : St} {p w z : Int} (hw : wf g 0 1) (h6 : c6 g) (hp : 0 ≤ p ∧ p < 4) (hw9 : 0 ≤ w ∧ w ≤ 9) (h : se g u 0 p w z) : wf u 0 1 ∧ c6 u ∧ ∀ f : Nat, 8 ≤ f → u f = g f := by
  rcases h with ⟨h1, -, rfl⟩ | ⟨h1, -, a, b, ca, cb, rfl⟩
  · exact ⟨wf_refused hw, c6_els (els_x (up_i (by decide)) (up_ff (by decide)) (up_ff (by decide))) h6, fun f hf => up_ff (by omega)⟩
  · have hr := c6_room hw h6 p hp.1 hp.2 h1
    have w0 : wf (seG g 0 p) 0 1 := wf_up6 (by decide) hw
    have n0 : seG g 0 p 1 0 0 2 = g 1 0 0 2 := by rw [seG_f _ _ _ (by decide)]
    have w1 : wf (adG (seG g 0 p) 0 p w 0 a) 0 1 := adG_wf w0 hp hw9 (by decide) (by omega) ca
    have n1 : adG (seG g 0 p) 0 p w 0 a 1 0 0 2 = g 1 0 0 2 + 1 := by rw [ad1, if_pos rfl, n0]
    have w2 := adG_wf w1 hp hw9 (by decide) (by omega) cb
    refine ⟨w2, fun q h0 h4 => ?_, fun f hf => by rw [adf _ _ _ _ _ _ (by omega) (by omega) (by omega), adf _ _ _ _ _ _ (by omega) (by omega) (by omega), seG_f _ _ _ (by omega)]⟩
    rw [eOf_ad w1 (by omega) cb.1, eOf_ad w0 (by omega) ca.1]
    have e0 : eOf (seG g 0 p) 0 q = eOf g 0 q := by rw [eOf_els, eOf_els, els_x (by rw [seG_f _ _ _ (by decide)]) (seG_f _ _ _ (by decide)) (seG_f _ _ _ (by decide))]
    rw [e0]
    have := h6 q h0 h4
    by_cases hq : p = q
    · subst hq; rw [if_pos rfl]; omega
    · rw [if_neg hq]; omega
theorem mv_ok {g : St} {p b : Int} (hw : wf g 0 1) (h6 : c6 g) : wf (mvG g 0 p b) 0 1 ∧ c6 (mvG g 0 p b) ∧ ∀ f : Nat, 8 ≤ f → mvG g 0 p b f = g f := by
  unfold mvG; split
  · exact ⟨wf_refused hw, c6_els (els_x (up_i (by decide)) (up_ff (by decide)) (up_ff (by decide))) h6, fun f hf => up_ff (by omega)⟩
  · rename_i hm
    exact ⟨wf_place (by unfold mvO at hm; omega) hw, c6_els (els_x (up_f (by decide)) (up_ff (by decide)) (up_ff (by decide))) h6, fun f hf => up_ff (by omega)⟩
theorem tr_ok {g u : St} {z : Int} (hw : wf g 0 1) (hc : g 1 0 0 0 < 100000) (h6 : c6 g) (h : tr g u 0 z) : wf u 0 1 ∧ u 1 0 0 0 = g 1 0 0 0 + 1 ∧ c6 u ∧ ∀ f : Nat, 8 ≤ f → u f = g f := by
  have h1 := tr_wf hw hc h
  obtain ⟨b, hb, -, -, -, hd⟩ := h
  have e1 : els (caN (tbG g 0) 0 b.toNat).1 0 = els g 0 := els_x (by rw [caN_f _ _ (by decide) (by decide), tbG_2]) (by rw [caN_f _ _ (by decide) (by decide), tbG_f _ _ (by decide) (by decide)]) (by rw [caN_f _ _ (by decide) (by decide), tbG_f _ _ (by decide) (by decide)])
  have n1 : (caN (tbG g 0) 0 b.toNat).1 1 0 0 2 = g 1 0 0 2 := by rw [caN_f _ _ (by decide) (by decide), tbG_2]
  have e2 := els_drp (by omega) hd
  refine ⟨h1.1, h1.2, fun p h0 h4 => ?_, fun f hf => ?_⟩
  · rw [eOf_els, e2, e1]
    have := (List.drop_sublist b.toNat (els g 0)).countP_le (p := ofP p)
    have h2 := h6 p h0 h4
    rw [eOf_els] at h2; omega
  · obtain ⟨v, ⟨h2, -⟩, rfl⟩ := hd
    rw [up_ff (by omega)]
    funext k j x
    rw [h2 f k j x (by omega), caN_f _ _ (by omega) (by omega), tbG_f _ _ (by omega) (by omega)]
theorem trs_ok : ∀ (n : Nat) {g u : St} {z : Int}, wf g 0 1 → c6 g → g 1 0 0 0 + n ≤ 100000 → trs 0 n g u z → wf u 0 1 ∧ u 1 0 0 0 = g 1 0 0 0 + n ∧ c6 u ∧ ∀ f : Nat, 8 ≤ f → u f = g f
  | 0, g, u, z, hw, h6, _, h => by
    obtain ⟨rfl, -⟩ := h; exact ⟨hw, by simp, h6, fun _ _ => rfl⟩
  | n + 1, g, u, z, hw, h6, hc, h => by
    obtain ⟨v, y, x, h1, h2, -⟩ := h
    have a := trs_ok n hw h6 (by omega) h1
    have b := tr_ok a.1 (by omega) a.2.2.1 h2
    exact ⟨b.1, by rw [b.2.1, a.2.1]; omega, b.2.2.1, fun f hf => (b.2.2.2 f hf).trans (a.2.2.2 f hf)⟩
/-- an order's numbers are what they must be -/
def vC (g : St) (i : Int) : Prop := (cdA g i = 99 → (0 ≤ cdA g (i + 1) - 48 ∧ cdA g (i + 1) - 48 < 4) ∧ (0 ≤ cdA g (i + 3) - 48 ∧ cdA g (i + 3) - 48 ≤ 9)) ∧ (cdA g i = 109 → (0 ≤ cdA g (i + 1) - 48 ∧ cdA g (i + 1) - 48 < 4) ∧ (-9 ≤ oSt g i ∧ oSt g i ≤ 9)) ∧ (cdA g i ≠ 99 → cdA g i ≠ 109 → 1 ≤ oTu g i ∧ oTu g i ≤ 99)
theorem do1_ok {g u : St} {i z : Int} (hw : wf g 0 1) (h6 : c6 g) (hv : vC g i) (h : do1 g u i z) : wf u 0 1 ∧ c6 u ∧ (∀ f : Nat, 8 ≤ f → u f = g f) ∧ (z = 0 ∨ z = 1) := by
  rcases h with ⟨h1, y, h2, rfl⟩ | ⟨h1, rfl, rfl⟩ | ⟨⟨h1, h1b⟩, ⟨-, rfl, rfl⟩ | ⟨h2, rfl, y, h3⟩⟩
  · have a := hv.1 h1
    have b := se_ok hw h6 a.1 a.2 h2
    exact ⟨b.1, b.2.1, b.2.2, by split <;> simp⟩
  · have b := mv_ok (p := cdA g (i + 1) - 48) (b := oSt g i) hw h6
    exact ⟨b.1, b.2.1, b.2.2, by split <;> simp⟩
  · exact ⟨hw, h6, fun _ _ => rfl, Or.inl rfl⟩
  · have a := hv.2.2 h1 h1b
    have b := trs_ok _ hw h6 (by omega) h3
    exact ⟨b.1, b.2.2.1, b.2.2.2, Or.inr rfl⟩
def rnC : Nat → St → Int → St → Int → Prop
  | 0, g, _, u, z => u = g ∧ z = 0
  | n + 1, g, i, u, z => (g 12 0 0 1 ≤ i ∧ u = g ∧ z = 0) ∨ (i < g 12 0 0 1 ∧ ¬ (i = 0 ∨ cdA g (i - 1) = 59) ∧ rnC n g (i + 1) u z) ∨ (i < g 12 0 0 1 ∧ (i = 0 ∨ cdA g (i - 1) = 59) ∧ ∃ v b, do1 g v i b ∧ ((b = 0 ∧ u = v ∧ z = 0) ∨ (b = 1 ∧ ∃ y, rnC n v (i + 1) u y ∧ z = y + 1)))
theorem rnC_e {g : St} {i : Int} (h : g 12 0 0 1 ≤ i) : ∀ n, rnC n g i g 0
  | 0 => ⟨rfl, rfl⟩
  | n + 1 => Or.inl ⟨h, rfl, rfl⟩
theorem cdA_eq {g u : St} (h12 : u 12 = g 12) (h13 : u 13 = g 13) (i : Int) : cdA u i = cdA g i := by unfold cdA; rw [h12, h13]
theorem vC_of {g u : St} (ht : wt g) (ha : stN (g 13 0 0) (g 12 0 0 1).toNat = 9 ∨ stN (g 13 0 0) (g 12 0 0 1).toNat = 8) (h12 : u 12 = g 12) (h13 : u 13 = g 13) {i : Int} (h0 : 0 ≤ i) (hi : i < g 12 0 0 1) (hs : i = 0 ∨ cdA u (i - 1) = 59) : vC u i := by
  rw [cdA_eq h12 h13] at hs
  have := ps_ok ht ha h0 hi hs
  unfold vC oSt oTu at *
  simp only [cdA_eq h12 h13]
  exact this

theorem svG_ff {g : St} (hh : wh g) {f : Nat} (h : 8 ≤ f) (h8 : f ≠ 8) (h9 : f ≠ 9) : svG g 0 f = g f := by
  unfold svG; rw [up_ff h8, cpE_f _ _ _ h, svD_f g h8 h9]

theorem cw_RX6_130 : CW RX6 130 RX5 yX5_isTurns cX5_isTurns 3 (some .boolean) 0 := ⟨u_20_23, u_21_0, u_21_1, u_2_2, u_21_2, by decide +kernel⟩
theorem cw_RX6_138 : CW RX6 138 RX5 yX5_startsOrder cX5_startsOrder 2 (some .boolean) 1 := ⟨u_21_3, u_21_4, u_21_5, u_2_2, u_21_6, by decide +kernel⟩
theorem cw_RX6_141 : CW RX6 141 RX6 yX6_doOrder cX6_doOrder 3 (some .boolean) 1 := ⟨u_21_11, u_21_12, u_21_13, u_1_2, u_21_14, by decide +kernel⟩
set_option maxHeartbeats 4000000 in
set_option maxRecDepth 100000 in
theorem ct_X6_run (l : Launch) (L : Lay) (hfl : l.flags = flags0) (g : St) (hh : wh g) (hA : wA g) (ht : wt g) (h6 : c6 g) : vx_Met l yX6_run (.code yX6_run cX6_run 3 (some .int) :: wsL_law) { frames := 6, cells := 1, slots := 6, locals := 135 } (va_Pc [.ref (adr L 0 0 0)] (HS L g)) (va_Qi (fun (r9 : Int32) (u : St) => ∃ z : Int, r9 = iI z ∧ ((stN (g 13 0 0) (g 12 0 0 1).toNat = 9 ∨ stN (g 13 0 0) (g 12 0 0 1).toNat = 8) ∧ ∃ v, rnC 60 (svG g 0) 0 v z ∧ u = up v 12 0 0 1 0)) (fun u t => HS L u t) (Af L)) (XX L g (fun E => E = eIA ∧ ¬ (stN (g 13 0 0) (g 12 0 0 1).toNat = 9 ∨ stN (g 13 0 0) (g 12 0 0 1).toNat = 8))) 1 6 (Af L) := by
  refine ct_mkX (by decide +kernel) (Nat.le_of_ble_eq_true rfl) ?_
  intro pp ee ss mm bel mth cx C hr hlk htab
  show V pp l ee { frames := 6, cells := 1, slots := 6, locals := 135 } ss mm ([.ref (adr L 0 0 0)]).toArray bel mth cx 3 L (HH L g) 0 0 _ 0 [(0, .ref (adr L 0 0 0))] []
  have hws : wf (svG g 0) 0 1 := wf_fk (svG_0 hh) (hA 0 (by omega) (by omega))
  obtain ⟨htl, htc⟩ := id ht
  have s12 : svG g 0 12 = g 12 := svG_ff hh (by decide) (by decide) (by decide)
  have s13 : svG g 0 13 = g 13 := svG_ff hh (by decide) (by decide) (by decide)
  have s6 : c6 (svG g 0) := fun p h0 h4 => by (rw [eOf_fk (svG_0 hh)]; exact h6 p h0 h4)
  refine v_aload_n (pc := 0) C 0 rfl rfl dX6_run_0 ?_
  refine gt_0_4 (pc := 1) C u_2_3 dX6_run_1 ?_
  refine v_calliV (pc := 4) C cw_RX6_130 rcv_12 (ct_X5_isTurns l L g (by first | assumption | omega | (unfold rg; omega))) ⟨Nat.le_of_ble_eq_true rfl, Nat.le_of_ble_eq_true rfl⟩ rfl (Nat.le_of_ble_eq_true rfl) ⟨Nat.le_of_ble_eq_true rfl, Nat.le_of_ble_eq_true rfl⟩ rfl dX6_run_4 (fun r9 u9 hP_1 => ?_)
  obtain ⟨hP_1, hP_1b⟩ := hP_1
  rw [hP_1, hP_1b]
  clear hP_1 hP_1b r9 u9
  refine v_if_ne (pc := 7) C 20 z1_rg (by decide) dX6_run_7 (fun h7 => ?_) (fun h7 => ?_)
  · skip
    have h7c := z1_net h7
    refine v_aload_n (pc := 20) C 0 rfl rfl dX6_run_20 ?_
    refine gt_0_1 (pc := 21) C u_1_20 dX6_run_21 ?_
    refine v_aload_n (pc := 24) C 0 rfl rfl dX6_run_24 ?_
    refine gt_0_0 (pc := 25) C u_1_16 dX6_run_25 ?_
    refine v_callvV (pc := 28) C cw_RX6_53 rcv_8 (ct_X3_save l L g 0 (by first | assumption | omega | (unfold rg; omega)) (by first | assumption | omega | (unfold rg; omega)) (by first | assumption | omega | (unfold rg; omega))) ⟨Nat.le_of_ble_eq_true rfl, Nat.le_of_ble_eq_true rfl⟩ rfl (Nat.le_of_ble_eq_true rfl) ⟨Nat.le_of_ble_eq_true rfl, Nat.le_of_ble_eq_true rfl⟩ rfl dX6_run_28 (fun u9 hP_2 => ?_)
    rw [hP_2]
    clear hP_2 u9
    refine v_iconst (pc := 31) C dX6_run_31 ?_
    refine v_istore_n (pc := 32) C [(1, .int (iI 0)), (0, .ref (adr L 0 0 0))] rfl (by decide) rfl dX6_run_32 ?_
    refine v_iconst (pc := 33) C dX6_run_33 ?_
    refine v_istore_n (pc := 34) C [(2, .int (iI 0)), (1, .int (iI 0)), (0, .ref (adr L 0 0 0))] rfl (by decide) rfl dX6_run_34 ?_
    have lb35 : ∀ (n9 : Nat) (v : St) (q : Int) (i : Int), (0 ≤ i ∧ i ≤ g 12 0 0 1) → (wf v 0 1 ∧ c6 v) → (v 12 = g 12) → (v 13 = g 13) → (∃ n : Nat, 60 - i ≤ n ∧ ∀ u z, rnC n v i u z → rnC 60 (svG g 0) 0 u (z + q)) → (60 - i).toNat < n9 → V pp l ee { frames := 6, cells := 1, slots := 6, locals := 135 } ss mm ([.ref (adr L 0 0 0)]).toArray bel mth cx 3 L (HH L v) 0 0 (vx_MQ bel (va_Qi (fun (r9 : Int32) (u : St) => ∃ z : Int, r9 = iI z ∧ ((stN (g 13 0 0) (g 12 0 0 1).toNat = 9 ∨ stN (g 13 0 0) (g 12 0 0 1).toNat = 8) ∧ ∃ v, rnC 60 (svG g 0) 0 v z ∧ u = up v 12 0 0 1 0)) (fun u t => HS L u t) (Af L)) (XX L g (fun E => E = eIA ∧ ¬ (stN (g 13 0 0) (g 12 0 0 1).toNat = 9 ∨ stN (g 13 0 0) (g 12 0 0 1).toNat = 8))) ([.ref (adr L 0 0 0)]).toArray ss 1 6 (Af L)) 35 [(0, .ref (adr L 0 0 0)), (1, .int (iI q)), (2, .int (iI i))] [] := by
      intro n9
      induction n9 with
      | zero => intro v q i hi hv h12 h13 hR hm9; exact absurd hm9 (Nat.not_lt_zero _)
      | succ n9 ih9 =>
        intro v q i hi hv h12 h13 hR hm9
        obtain ⟨n, hn, hR⟩ := hR
        have htv : wt v := (by unfold wt; rw [h12, h13]; exact ht)
        have ih35 := ih9
        refine v_iload_n (pc := 35) C 2 rfl rfl dX6_run_35 ?_
        refine v_aload_n (pc := 36) C 0 rfl rfl dX6_run_36 ?_
        refine gt_0_4 (pc := 37) C u_2_3 dX6_run_37 ?_
        refine gt_12_1 (pc := 40) C u_17_2 dX6_run_40 (g 12 0 0 1) (by rw [h12]) ?_
        refine v_icmp_ge (pc := 43) C 77 ⟨by (first | assumption | omega | (unfold rg; omega)), by (first | assumption | omega | (unfold rg; omega))⟩ ⟨by (first | assumption | omega | (unfold rg; omega)), by (first | assumption | omega | (unfold rg; omega))⟩ (by decide) dX6_run_43 (fun h43 => ?_) (fun h43 => ?_)
        · skip
          refine v_aload_n (pc := 77) C 0 rfl rfl dX6_run_77 ?_
          refine gt_0_4 (pc := 78) C u_2_3 dX6_run_78 ?_
          refine v_iconst (pc := 81) C dX6_run_81 ?_
          refine pt_12_1 (pc := 82) C u_17_2 dX6_run_82 ?_
          refine v_iload_n (pc := 85) C 1 rfl rfl dX6_run_85 ?_
          exact v_iretX (pc := 86) C hr hlk ⟨by decide, by decide⟩ (by first | exact ⟨_, rfl, h7c, v, by (have := hR v 0 (rnC_e (by rw [h12]; omega) n); rw [Int.zero_add] at this; exact this), rfl⟩ | exact ⟨_, rfl, h7c, v2, by (have := hR v2 0 (Or.inr (Or.inr ⟨by rw [h12]; omega, h54c, v2, zz, hdo, Or.inl ⟨by omega, rfl, rfl⟩⟩)); rw [Int.zero_add] at this; exact this), rfl⟩) dX6_run_86
        · skip
          obtain ⟨n, rfl⟩ : ∃ x, n = x + 1 := ⟨n - 1, by omega⟩
          refine v_aload_n (pc := 46) C 0 rfl rfl dX6_run_46 ?_
          refine gt_0_4 (pc := 47) C u_2_3 dX6_run_47 ?_
          refine v_iload_n (pc := 50) C 2 rfl rfl dX6_run_50 ?_
          refine v_calliV (pc := 51) C cw_RX6_138 rcv_12 (ct_X5_startsOrder l L v i (by first | assumption | omega | (unfold rg; omega)) (by first | assumption | omega | (unfold rg; omega))) ⟨Nat.le_of_ble_eq_true rfl, Nat.le_of_ble_eq_true rfl⟩ rfl (Nat.le_of_ble_eq_true rfl) ⟨Nat.le_of_ble_eq_true rfl, Nat.le_of_ble_eq_true rfl⟩ rfl dX6_run_51 (fun r9 u9 hP_3 => ?_)
          obtain ⟨hP_3, hP_3b⟩ := hP_3
          rw [hP_3, hP_3b]
          clear hP_3 hP_3b r9 u9
          refine v_if_eq (pc := 54) C 71 z1_rg (by decide) dX6_run_54 (fun h54 => ?_) (fun h54 => ?_)
          · skip
            have h54c := z1_eqt h54
            refine v_iinc (pc := 71) C 2 [(2, .int (iI (i + 1))), (0, .ref (adr L 0 0 0)), (1, .int (iI q))] rfl (by decide) rfl dX6_run_71 ?_
            refine v_goto (pc := 74) C 35 (by decide) dX6_run_74 ?_
            refine v_lsub [1, 2, 0] rfl ?_
            exact ih35 v q (i + 1) (by omega) (by first | exact hv | exact ⟨hd.1, hd.2.1⟩) (by first | exact h12 | exact (hd.2.2.1 12 (by decide)).trans h12) (by first | exact h13 | exact (hd.2.2.1 13 (by decide)).trans h13) (by first | exact ⟨n, by omega, fun u z h => hR u z (Or.inr (Or.inl ⟨by rw [h12]; omega, h54c, h⟩))⟩ | exact ⟨n, by omega, fun u z h => by rw [show z + (q + 1) = (z + 1) + q by omega]; exact hR u (z + 1) (Or.inr (Or.inr ⟨by rw [h12]; omega, h54c, v2, zz, hdo, Or.inr ⟨by omega, z, h, rfl⟩⟩))⟩) (by omega)
          · skip
            have h54c := z1_eqf h54
            have hvc := vC_of ht h7c h12 h13 hi.1 (by omega) h54c
            refine v_aload_n (pc := 57) C 0 rfl rfl dX6_run_57 ?_
            refine v_iload_n (pc := 58) C 2 rfl rfl dX6_run_58 ?_
            refine v_calliV (pc := 59) C cw_RX6_141 rcv_0 (ct_X6_doOrder l L v i (by exact hv.1) (by exact htv) (by first | assumption | omega | (unfold rg; omega)) (by exact hvc.1) (by exact hvc.2.1) (by exact hvc.2.2) (by exact c6_room hv.1 hv.2)) ⟨Nat.le_of_ble_eq_true rfl, Nat.le_of_ble_eq_true rfl⟩ rfl (Nat.le_of_ble_eq_true rfl) ⟨Nat.le_of_ble_eq_true rfl, Nat.le_of_ble_eq_true rfl⟩ rfl dX6_run_59 (fun r9 v2 hP_4 => ?_)
            obtain ⟨zz, rfl, hP_4⟩ := hP_4
            have hdo := hP_4
            have hd := do1_ok hv.1 hv.2 hvc hdo
            have hz01 := hd.2.2.2
            refine v_if_ne (pc := 62) C 68 ⟨by (first | assumption | omega | (unfold rg; omega)), by (first | assumption | omega | (unfold rg; omega))⟩ (by decide) dX6_run_62 (fun h62 => ?_) (fun h62 => ?_)
            · skip
              refine v_iinc (pc := 68) C 1 [(1, .int (iI (q + 1))), (0, .ref (adr L 0 0 0)), (2, .int (iI i))] rfl (by decide) rfl dX6_run_68 ?_
              refine v_iinc (pc := 71) C 2 [(2, .int (iI (i + 1))), (1, .int (iI (q + 1))), (0, .ref (adr L 0 0 0))] rfl (by decide) rfl dX6_run_71 ?_
              refine v_goto (pc := 74) C 35 (by decide) dX6_run_74 ?_
              refine v_lsub [2, 1, 0] rfl ?_
              exact ih35 v2 (q + 1) (i + 1) (by omega) (by first | exact hv | exact ⟨hd.1, hd.2.1⟩) (by first | exact h12 | exact (hd.2.2.1 12 (by decide)).trans h12) (by first | exact h13 | exact (hd.2.2.1 13 (by decide)).trans h13) (by first | exact ⟨n, by omega, fun u z h => hR u z (Or.inr (Or.inl ⟨by rw [h12]; omega, h54c, h⟩))⟩ | exact ⟨n, by omega, fun u z h => by rw [show z + (q + 1) = (z + 1) + q by omega]; exact hR u (z + 1) (Or.inr (Or.inr ⟨by rw [h12]; omega, h54c, v2, zz, hdo, Or.inr ⟨by omega, z, h, rfl⟩⟩))⟩) (by omega)
            · skip
              refine v_goto (pc := 65) C 77 (by decide) dX6_run_65 ?_
              refine v_aload_n (pc := 77) C 0 rfl rfl dX6_run_77 ?_
              refine gt_0_4 (pc := 78) C u_2_3 dX6_run_78 ?_
              refine v_iconst (pc := 81) C dX6_run_81 ?_
              refine pt_12_1 (pc := 82) C u_17_2 dX6_run_82 ?_
              refine v_iload_n (pc := 85) C 1 rfl rfl dX6_run_85 ?_
              exact v_iretX (pc := 86) C hr hlk ⟨by decide, by decide⟩ (by first | exact ⟨_, rfl, h7c, v, by (have := hR v 0 (rnC_e (by rw [h12]; omega) n); rw [Int.zero_add] at this; exact this), rfl⟩ | exact ⟨_, rfl, h7c, v2, by (have := hR v2 0 (Or.inr (Or.inr ⟨by rw [h12]; omega, h54c, v2, zz, hdo, Or.inl ⟨by omega, rfl, rfl⟩⟩)); rw [Int.zero_add] at this; exact this), rfl⟩) dX6_run_86
    refine v_lsub [2, 1, 0] rfl ?_
    exact lb35 _ (svG g 0) 0 0 (by omega) (by exact ⟨hws, s6⟩) (by exact s12) (by exact s13) (by exact ⟨60, by omega, fun u z h => by rw [Int.add_zero]; exact h⟩) (Nat.lt_succ_self _)
  · skip
    have h7c := z1_nef h7
    exact v_throw (pc := 10) C (fl_st hfl) hlk htab tw_ia (show (135, "the buffer does not tell turns") ∈ strs by decide) (⟨rfl, h7c⟩) ⟨by decide, Nat.le_of_ble_eq_true rfl, by decide, by decide⟩ ⟨by decide, by decide⟩ dX6_run_10 dX6_run_13 dX6_run_14 dX6_run_16 dX6_run_19
