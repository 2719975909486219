/-! the law's turns: what holds of them -/
theorem lls_mem {g : St} {x : E5} (hx : x ∈ lls g) : ∃ j : Int, 0 ≤ j ∧ j < g 14 0 0 9 ∧ x = lev g j := by
  obtain ⟨i, hi, rfl⟩ := List.mem_map.mp hx
  have := List.mem_range.mp hi
  exact ⟨i, by omega, by omega, rfl⟩
theorem lev_mem {g : St} {e : Int} (h0 : 0 ≤ e) (h1 : e < g 14 0 0 9) : lev g e ∈ lls g :=
  List.mem_map.mpr ⟨e.toNat, List.mem_range.mpr (by omega), by rw [show ((e.toNat : Nat) : Int) = e by omega]⟩
theorem wm_mk {g : St} {d : Int} (h0 : 8 ≤ g 14 0 0 0 ∧ g 14 0 0 0 ≤ 40) (h1 : 1 ≤ g 14 0 0 1 ∧ g 14 0 0 1 ≤ 9) (h2 : 0 ≤ g 14 0 0 2 ∧ g 14 0 0 2 ≤ 5) (h4 : 0 ≤ g 14 0 0 4 ∧ g 14 0 0 4 ≤ g 14 0 0 0) (h5 : 1 ≤ g 14 0 0 5 ∧ g 14 0 0 5 ≤ 9) (h6 : g 14 0 0 6 = 1 ∨ g 14 0 0 6 = -1) (h3 : 0 ≤ g 14 0 0 3 ∧ g 14 0 0 3 ≤ 100000) (h9 : 0 ≤ g 14 0 0 9 ∧ g 14 0 0 9 ≤ 24) (hp : ∀ p, 0 ≤ p → p < 4 → 0 ≤ g 15 0 0 (6 * p) ∧ g 15 0 0 (6 * p) ≤ g 14 0 0 0)
    (he : ∀ e, 0 ≤ e → e < g 14 0 0 9 → g 17 0 0 e / 10 % 10 < 4 ∧ (0 ≤ g 17 0 0 e / 100 ∧ g 17 0 0 e / 100 ≤ g 14 0 0 0) ∧ (g 14 0 0 3 + d ≤ g 16 0 0 e / 2 ∧ g 16 0 0 e / 2 ≤ g 14 0 0 3 + 200)) : wm (em g 15 0 0) d := by
  unfold wm
  rw [em_q (x := 0) (by decide) (by decide), em_q (x := 1) (by decide) (by decide), em_q (x := 2) (by decide) (by decide), em_q (x := 3) (by decide) (by decide), em_q (x := 4) (by decide) (by decide), em_q (x := 5) (by decide) (by decide), em_q (x := 9) (by decide) (by decide), em_6]
  refine ⟨h0, h1, h2, h4, h5, by omega, h3, h9, fun p a b => ?_, fun e a b => ?_⟩
  · rw [em_p ⟨a, b⟩ (by decide), show 6 * p + 0 = 6 * p by omega]; exact hp p a b
  · obtain ⟨e0, e1, e2, e3, e4⟩ := em_e (g := g) a
    unfold okM
    rw [e0, e1, e2, e3, e4, em_q (x := 0) (by decide) (by decide), em_q (x := 3) (by decide) (by decide)]
    have := he e a b
    omega
theorem ltA_x (g : St) {x : Int} (h3 : x ≠ 3) (h4 : x ≠ 4) (h6 : x ≠ 6) : ltA g 14 0 0 x = g 14 0 0 x := by unfold ltA; rw [lm_x _ _ h4 h6, up_i h3]
theorem ltA_3 (g : St) : ltA g 14 0 0 3 = g 14 0 0 3 + 1 := by unfold ltA; rw [lm_x _ _ (by decide) (by decide), up_s]
theorem ltA_f (g : St) {f : Nat} (h : f ≠ 14) : ltA g f = g f := by unfold ltA; rw [lm_f _ _ h, up_ff h]
theorem ltA_4 (g : St) : ltA g 14 0 0 4 = (bwalk (g 14 0 0 0) (g 14 0 0 5).toNat (g 14 0 0 4, (g 14 0 0 6 + 1) / 2)).1 := by
  unfold ltA; rw [lm_4, up_i (by decide), up_i (by decide), up_i (by decide)]
theorem ltA_6 (g : St) : ltA g 14 0 0 6 = 2 * (bwalk (g 14 0 0 0) (g 14 0 0 5).toNat (g 14 0 0 4, (g 14 0 0 6 + 1) / 2)).2 - 1 := by
  unfold ltA; rw [lm_6, up_i (by decide), up_i (by decide), up_i (by decide)]
theorem ltA_ls (g : St) : lls (ltA g) = lls g := by
  unfold lls
  rw [ltA_x g (by decide) (by decide) (by decide)]
  refine List.map_congr_left (fun j _ => ?_)
  unfold lev
  rw [ltA_f g (by decide), ltA_f g (by decide)]
theorem ltA_b {g : St} {d : Int} (h : wq g d) : (0 ≤ ltA g 14 0 0 4 ∧ ltA g 14 0 0 4 ≤ g 14 0 0 0) ∧ (ltA g 14 0 0 6 = 1 ∨ ltA g 14 0 0 6 = -1) := by
  obtain ⟨qS0, qS1, qS2, qB0, qB1, qCl, qN, qPl, qEc⟩ := wq_s h
  have q6 := h.2.1
  have hb := bwalk_in (last := g 14 0 0 0) (by omega) (q := (g 14 0 0 4, (g 14 0 0 6 + 1) / 2)) qB0 (show (g 14 0 0 6 + 1) / 2 = 0 ∨ (g 14 0 0 6 + 1) / 2 = 1 by omega) (g 14 0 0 5).toNat
  rw [ltA_4, ltA_6]
  exact ⟨hb.1, by omega⟩
theorem wq_A {g : St} (h : wq g 1) (hc : g 14 0 0 3 + 1 ≤ 100000) : wq (ltA g) 0 := by
  obtain ⟨qS0, qS1, qS2, qB0, qB1, qCl, qN, qPl, qEc⟩ := wq_s h
  have hb := ltA_b h
  obtain ⟨-, q6, qP, q7, q8⟩ := h
  have x := fun (x : Int) => ltA_x g (x := x)
  have f15 := ltA_f g (f := 15) (by decide)
  have f16 := ltA_f g (f := 16) (by decide)
  have f17 := ltA_f g (f := 17) (by decide)
  refine ⟨wm_mk ?_ ?_ ?_ ?_ ?_ hb.2 ?_ ?_ (fun p a b => ?_) (fun e a b => ?_), hb.2, by rw [f15]; exact qP, ?_, ?_⟩
  · rw [x 0 (by decide) (by decide) (by decide)]; exact qS0
  · rw [x 1 (by decide) (by decide) (by decide)]; exact qS1
  · rw [x 2 (by decide) (by decide) (by decide)]; exact qS2
  · rw [x 0 (by decide) (by decide) (by decide)]; exact hb.1
  · rw [x 5 (by decide) (by decide) (by decide)]; exact qB1
  · rw [ltA_3]; omega
  · rw [x 9 (by decide) (by decide) (by decide)]; exact qN
  · rw [f15, x 0 (by decide) (by decide) (by decide)]; exact qPl p a b
  · rw [x 9 (by decide) (by decide) (by decide)] at b
    have := qEc e a b
    rw [f16, f17, x 0 (by decide) (by decide) (by decide), ltA_3]; omega
  · rw [x 7 (by decide) (by decide) (by decide)]; exact q7
  · rw [x 8 (by decide) (by decide) (by decide)]; exact q8
theorem fx_k {cl : E5 → Bool} {pp : Int → Int} {ball : Int} {S : AS} {x : E5} {p q : Int} (hq : q = 0 ∨ q = 2) : (fx cl pp ball S x).1 p q = S.1 p q := by
  unfold fx
  by_cases h1 : cl x = true
  · rw [if_pos h1]; simp only [bm]; rw [if_neg (by omega)]
  · rw [if_neg h1]
    by_cases h2 : pp x.1 ≠ x.2.1
    · rw [if_pos h2]; simp only [bm]; rw [if_neg (by omega)]
    · rw [if_neg h2]
      by_cases h3 : ball ≠ x.2.1
      · rw [if_pos h3]; simp only [bm]; rw [if_neg (by omega)]
      · rw [if_neg h3]; simp only [bm]; rw [if_neg (by omega), if_neg (by omega)]
theorem fold_k {cl : E5 → Bool} {pp : Int → Int} {ball : Int} {p q : Int} (hq : q = 0 ∨ q = 2) : ∀ (l : List E5) (S : AS), (l.foldl (fx cl pp ball) S).1 p q = S.1 p q
  | [], _ => rfl
  | x :: l, S => by rw [List.foldl_cons, fold_k hq l, fx_k hq]
/-- all that came back, by the accounts -/
def s345 (F : Int → Int → Int) : Int := (F 0 3 + F 1 3 + F 2 3 + F 3 3) + (F 0 4 + F 1 4 + F 2 4 + F 3 4) + (F 0 5 + F 1 5 + F 2 5 + F 3 5)
theorem s345_bm {F : Int → Int → Int} {p q : Int} (hp : 0 ≤ p ∧ p < 4) : (q = 3 ∨ q = 4 ∨ q = 5 → s345 (bm F p q) = s345 F + 1) ∧ (q = 1 → s345 (bm F p q) = s345 F) := by
  unfold s345
  have hp4 : p = 0 ∨ p = 1 ∨ p = 2 ∨ p = 3 := by omega
  refine ⟨fun hq => ?_, fun hq => ?_⟩
  · rcases hp4 with rfl | rfl | rfl | rfl <;> rcases hq with rfl | rfl | rfl <;> simp [bm] <;> omega
  · subst hq
    rcases hp4 with rfl | rfl | rfl | rfl <;> simp [bm]
theorem fx_345 {cl : E5 → Bool} {pp : Int → Int} {ball : Int} {S : AS} {x : E5} (hx : 0 ≤ x.1 ∧ x.1 < 4) : s345 (fx cl pp ball S x).1 = s345 S.1 + 1 := by
  unfold fx
  by_cases h1 : cl x = true
  · rw [if_pos h1]; exact (s345_bm hx).1 (by decide)
  · rw [if_neg h1]
    by_cases h2 : pp x.1 ≠ x.2.1
    · rw [if_pos h2]; exact (s345_bm hx).1 (by decide)
    · rw [if_neg h2]
      by_cases h3 : ball ≠ x.2.1
      · rw [if_pos h3]; exact (s345_bm hx).1 (by decide)
      · rw [if_neg h3]
        show s345 (bm (bm S.1 x.1 3) x.1 1) = _
        rw [(s345_bm hx).2 rfl]; exact (s345_bm hx).1 (by decide)
theorem fold_345 {cl : E5 → Bool} {pp : Int → Int} {ball : Int} : ∀ (l : List E5) (S : AS), (∀ x ∈ l, 0 ≤ x.1 ∧ x.1 < 4) → s345 (l.foldl (fx cl pp ball) S).1 = s345 S.1 + (l.length : Nat)
  | [], S, _ => by simp
  | x :: l, S, h => by
    rw [List.foldl_cons, fold_345 l _ (fun y hy => h y (List.mem_cons_of_mem _ hy)), fx_345 (h x List.mem_cons_self), List.length_cons]
    omega
theorem rs_at {F : Int → Int → Int} {p x : Int} (hp : 0 ≤ p ∧ p < 4) (hx : 0 ≤ x ∧ x < 6) : rs F p x = F p x := by unfold rs; rw [if_pos ⟨hp.1, hp.2, hx.1, hx.2⟩]
theorem rs_345 (F : Int → Int → Int) : s345 (rs F) = s345 F := by
  unfold s345
  rw [rs_at (by decide) (by decide), rs_at (by decide) (by decide), rs_at (by decide) (by decide), rs_at (by decide) (by decide), rs_at (by decide) (by decide), rs_at (by decide) (by decide), rs_at (by decide) (by decide), rs_at (by decide) (by decide), rs_at (by decide) (by decide), rs_at (by decide) (by decide), rs_at (by decide) (by decide), rs_at (by decide) (by decide)]
def plF (g : St) : Int → Int → Int := fun p x => g 15 0 0 (6 * p + x)
theorem fdL_all (g : St) : fdL g (g 14 0 0 9).toNat = ((lls g).filter (duQ (g 14 0 0 3))).foldl (fL g) (asX g (g 14 0 0 5) (g 14 0 0 6) 0) := by
  unfold fdL
  rw [List.take_of_length_le (by rw [lls_len]; omega)]
theorem lcm_k {g u : St} {z : Int} (h : lcm g u z) {p q : Int} (hp : 0 ≤ p ∧ p < 4) (hq : q = 0 ∨ q = 2) : u 15 0 0 (6 * p + q) = g 15 0 0 (6 * p + q) := by
  have h1 := congrArg (fun S : AS => S.1 p q) h.1
  rw [fdL_all] at h1
  first | simp only [] at h1 | skip
  rw [fold_k hq] at h1
  have e1 : (asX u (u 14 0 0 5) (u 14 0 0 6) z).1 p q = u 15 0 0 (6 * p + q) := rs_at (F := fun p x => u 15 0 0 (6 * p + x)) (x := q) hp (by omega)
  have e2 : (asX g (g 14 0 0 5) (g 14 0 0 6) 0).1 p q = g 15 0 0 (6 * p + q) := rs_at (F := fun p x => g 15 0 0 (6 * p + x)) (x := q) hp (by omega)
  rw [e1, e2] at h1
  exact h1
theorem wq_lt {v u : St} {z : Int} (h : wq v 1) (hc : v 14 0 0 3 + 1 ≤ 100000) (hb : ∀ j, 0 ≤ j → j < 24 → v 15 0 0 j + 24 ≤ 200000) (hl : lcm (ltA v) u z) : wq u 1 := by
  have hA := wq_A h hc
  obtain ⟨qS0, qS1, qS2, qB0, qB1, qCl, qN, qPl, qEc⟩ := wq_s hA
  have hk := fun (p : Int) (a : 0 ≤ p) (b : p < 4) => lcm_k hl (p := p) (q := 0) ⟨a, b⟩ (Or.inl rfl)
  obtain ⟨-, -, qP, q7, q8⟩ := hA
  obtain ⟨l1, l2, l3, l4, l5, l6, l7, l8, l9⟩ := hl
  have f15 := ltA_f v (f := 15) (by decide)
  have x := fun (x : Int) => l3 x
  refine ⟨wm_mk ?_ ?_ ?_ ?_ l9 l4 ?_ ?_ (fun p a b => ?_) (fun e a b => ?_), l4, fun j a b => ?_, ?_, ?_⟩
  · rw [x 0 (by decide) (by decide) (by decide)]; exact qS0
  · rw [x 1 (by decide) (by decide) (by decide)]; exact qS1
  · rw [x 2 (by decide) (by decide) (by decide)]; exact qS2
  · rw [x 4 (by decide) (by decide) (by decide), x 0 (by decide) (by decide) (by decide)]; exact qB0
  · rw [x 3 (by decide) (by decide) (by decide)]; exact qCl
  · omega
  · have h1 := hk p a b
    have h2 := qPl p a b
    rw [show 6 * p + 0 = 6 * p by omega] at h1
    rw [h1, x 0 (by decide) (by decide) (by decide)]; exact h2
  · have me := lev_mem a b
    rw [l2] at me
    obtain ⟨m1, m2⟩ := List.mem_filter.mp me
    obtain ⟨j, j0, j1, je⟩ := lls_mem m1
    have hj := qEc j j0 j1
    have m2 := of_decide_eq_true m2
    have c0 : u 17 0 0 e / 10 % 10 = ltA v 17 0 0 j / 10 % 10 := congrArg (fun x : E5 => x.1) je
    have c1 : u 17 0 0 e / 100 = ltA v 17 0 0 j / 100 := congrArg (fun x : E5 => x.2.1) je
    have c3 : u 16 0 0 e / 2 = ltA v 16 0 0 j / 2 := congrArg (fun x : E5 => x.2.2.2.1) je
    have m3 : u 16 0 0 e / 2 ≠ ltA v 14 0 0 3 := m2
    rw [x 0 (by decide) (by decide) (by decide), x 3 (by decide) (by decide) (by decide)]
    omega
  · have h1 := l6 j a b
    have h2 := qP j a b
    have h3 := hb j a b
    rw [f15] at h1 h2
    omega
  · rw [x 7 (by decide) (by decide) (by decide)]; exact q7
  · rw [x 8 (by decide) (by decide) (by decide)]; exact q8

theorem cw_RL_75 : CWs RL 75 yL_moves cL_moves 4 none 2 := ⟨u_17_2, u_17_3, u_3_22, u_17_4, by decide +kernel⟩
theorem cw_RL_79 : CWs RL 79 yL_comes cL_comes 13 (some .int) 4 := ⟨u_17_5, u_17_6, u_3_22, u_17_7, by decide +kernel⟩
set_option maxHeartbeats 4000000 in
set_option maxRecDepth 100000 in
theorem ct_L_passes (l : Launch) (L : Lay) (g : St) (t : Int) (ht : 0 ≤ t ∧ t ≤ 99) (hq : wq g 1) (hcl : g 14 0 0 3 + t ≤ 99999) (hcb : ∀ j, 0 ≤ j → j < 24 → g 15 0 0 j + 24 * t ≤ 200000) : Met l yL_passes (.code yL_passes cL_passes 7 (some .int) :: wsL_law) { frames := 2, cells := 0, slots := 0, locals := 58 } (va_Pc [.int (iI t), .ref (adr L 14 0 0), .ref (adr L 15 0 0), .ref (adr L 16 0 0), .ref (adr L 17 0 0)] (HS L g)) (va_Qi (fun (r9 : Int32) (u : St) => ∃ z : Int, r9 = iI z ∧ (lts t.toNat g u z ∧ wq u 1 ∧ u 14 0 0 3 = g 14 0 0 3 + t ∧ (∀ j, 0 ≤ j → j < 24 → u 15 0 0 j ≤ g 15 0 0 j + 24 * t) ∧ (∀ f : Nat, (f < 14 ∨ 17 < f) → u f = g f) ∧ (0 ≤ z ∧ z ≤ 24 * t))) (fun u t => HS L u t) (Af L)) 0 0 (Af L) := by
  refine ct_mk (by decide +kernel) (Nat.le_of_ble_eq_true rfl) ?_
  intro pp ee ss mm bel mth cx C hr hlk
  show V pp l ee { frames := 2, cells := 0, slots := 0, locals := 58 } ss mm ([.int (iI t), .ref (adr L 14 0 0), .ref (adr L 15 0 0), .ref (adr L 16 0 0), .ref (adr L 17 0 0)]).toArray bel mth cx 7 L (HH L g) 0 0 _ 0 [(0, .int (iI t)), (1, .ref (adr L 14 0 0)), (2, .ref (adr L 15 0 0)), (3, .ref (adr L 16 0 0)), (4, .ref (adr L 17 0 0))] []
  refine v_iconst (pc := 0) C dL_passes_0 ?_
  refine v_istore (pc := 1) C [(5, .int (iI 0)), (0, .int (iI t)), (1, .ref (adr L 14 0 0)), (2, .ref (adr L 15 0 0)), (3, .ref (adr L 16 0 0)), (4, .ref (adr L 17 0 0))] (by decide) rfl dL_passes_1 ?_
  refine v_iconst (pc := 3) C dL_passes_3 ?_
  refine v_istore (pc := 4) C [(6, .int (iI 0)), (5, .int (iI 0)), (0, .int (iI t)), (1, .ref (adr L 14 0 0)), (2, .ref (adr L 15 0 0)), (3, .ref (adr L 16 0 0)), (4, .ref (adr L 17 0 0))] (by decide) rfl dL_passes_4 ?_
  have lb6 : ∀ (n9 : Nat) (h : St) (i : Int) (c : Int), (0 ≤ i ∧ i ≤ t) → (0 ≤ c ∧ c ≤ 24 * i) → (lts i.toNat g h c) → (wq h 1) → (h 14 0 0 3 = g 14 0 0 3 + i) → (∀ j, 0 ≤ j → j < 24 → h 15 0 0 j ≤ g 15 0 0 j + 24 * i) → (∀ f : Nat, (f < 14 ∨ 17 < f) → h f = g f) → (t - i).toNat < n9 → V pp l ee { frames := 2, cells := 0, slots := 0, locals := 58 } ss mm ([.int (iI t), .ref (adr L 14 0 0), .ref (adr L 15 0 0), .ref (adr L 16 0 0), .ref (adr L 17 0 0)]).toArray bel mth cx 7 L (HH L h) 0 0 (MQ bel (va_Qi (fun (r9 : Int32) (u : St) => ∃ z : Int, r9 = iI z ∧ (lts t.toNat g u z ∧ wq u 1 ∧ u 14 0 0 3 = g 14 0 0 3 + t ∧ (∀ j, 0 ≤ j → j < 24 → u 15 0 0 j ≤ g 15 0 0 j + 24 * t) ∧ (∀ f : Nat, (f < 14 ∨ 17 < f) → u f = g f) ∧ (0 ≤ z ∧ z ≤ 24 * t))) (fun u t => HS L u t) (Af L)) ([.int (iI t), .ref (adr L 14 0 0), .ref (adr L 15 0 0), .ref (adr L 16 0 0), .ref (adr L 17 0 0)]).toArray ss 0 0 (Af L)) 6 [(0, .int (iI t)), (1, .ref (adr L 14 0 0)), (2, .ref (adr L 15 0 0)), (3, .ref (adr L 16 0 0)), (4, .ref (adr L 17 0 0)), (5, .int (iI c)), (6, .int (iI i))] [] := by
    intro n9
    induction n9 with
    | zero => intro h i c hi hc hl hw h3 hb hff hm9; exact absurd hm9 (Nat.not_lt_zero _)
    | succ n9 ih9 =>
      intro h i c hi hc hl hw h3 hb hff hm9
      obtain ⟨qS0, qS1, qS2, qB0, qB1, qCl, qN, qPl, qEc⟩ := wq_s hw
      have q6 := hw.2.1
      have ih6 := ih9
      refine v_iload (pc := 6) C 6 rfl dL_passes_6 ?_
      refine v_iload_n (pc := 8) C 0 rfl rfl dL_passes_8 ?_
      refine v_icmp_ge (pc := 9) C 45 ⟨by (first | assumption | omega | (unfold rg; omega)), by (first | assumption | omega | (unfold rg; omega))⟩ ⟨by (first | assumption | omega | (unfold rg; omega)), by (first | assumption | omega | (unfold rg; omega))⟩ (by decide) dL_passes_9 (fun h9 => ?_) (fun h9 => ?_)
      · skip
        refine v_iload (pc := 45) C 5 rfl dL_passes_45 ?_
        exact v_iret (pc := 47) C hr hlk (⟨_, rfl, by rw [show t = i by omega]; exact hl, hw, by omega, fun j a b => by have := hb j a b; rw [show t = i by omega]; exact this, hff, by omega⟩) dL_passes_47
      · skip
        refine v_aload_n (pc := 12) C 1 rfl rfl dL_passes_12 ?_
        refine v_iconst (pc := 13) C dL_passes_13 ?_
        refine v_dup2 (pc := 14) C rfl rfl dL_passes_14 ?_
        refine al_14 (pc := 15) C ⟨by (first | assumption | omega | (unfold rg; omega)), by (first | assumption | omega | (unfold rg; omega))⟩ dL_passes_15 (h 14 0 0 3) (rfl) ?_
        refine v_iconst (pc := 16) C dL_passes_16 ?_
        refine v_iadd (pc := 17) C dL_passes_17 ?_
        refine as_14 (pc := 18) C ⟨by (first | assumption | omega | (unfold rg; omega)), by (first | assumption | omega | (unfold rg; omega))⟩ dL_passes_18 ?_
        refine v_aload_n (pc := 19) C 1 rfl rfl dL_passes_19 ?_
        refine v_iconst (pc := 20) C dL_passes_20 ?_
        refine al_14 (pc := 21) C ⟨by (first | assumption | omega | (unfold rg; omega)), by (first | assumption | omega | (unfold rg; omega))⟩ dL_passes_21 (h 14 0 0 5) (by simp [up]) ?_
        refine v_aload_n (pc := 22) C 1 rfl rfl dL_passes_22 ?_
        refine v_callvS (pc := 23) C cw_RL_75 (ct_L_moves l L (up h 14 0 0 3 ((h 14 0 0 3) + 1)) (h 14 0 0 5) (by omega) (by rw [up_i (by decide)]; exact qS0) (by rw [up_i (by decide), up_i (by decide)]; exact qB0) (by rw [up_i (by decide)]; exact q6)) ⟨Nat.le_of_ble_eq_true rfl, Nat.le_of_ble_eq_true rfl⟩ rfl (Nat.le_of_ble_eq_true rfl) ⟨Nat.le_of_ble_eq_true rfl, Nat.le_of_ble_eq_true rfl⟩ rfl dL_passes_23 (fun u9 hP_1 => ?_)
        rw [hP_1]
        clear hP_1 u9
        refine v_iload (pc := 26) C 5 rfl dL_passes_26 ?_
        refine v_aload_n (pc := 28) C 1 rfl rfl dL_passes_28 ?_
        refine v_aload_n (pc := 29) C 2 rfl rfl dL_passes_29 ?_
        refine v_aload_n (pc := 30) C 3 rfl rfl dL_passes_30 ?_
        refine v_aload (pc := 31) C 4 rfl dL_passes_31 ?_
        refine v_calliS (pc := 33) C cw_RL_79 (ct_L_comes l L (lmG (up h 14 0 0 3 ((h 14 0 0 3) + 1)) (h 14 0 0 5).toNat) (by exact wq_A hw (by omega))) ⟨Nat.le_of_ble_eq_true rfl, Nat.le_of_ble_eq_true rfl⟩ rfl (Nat.le_of_ble_eq_true rfl) ⟨Nat.le_of_ble_eq_true rfl, Nat.le_of_ble_eq_true rfl⟩ rfl dL_passes_33 (fun r9 u_3 hP_2 => ?_)
        obtain ⟨z_4, rfl, hP_2⟩ := hP_2
        have hL : lcm (ltA h) u_3 z_4 := hP_2
        have hz := hL.2.2.2.2.2.2.2.1
        refine v_iadd (pc := 36) C dL_passes_36 ?_
        refine v_istore (pc := 37) C [(5, .int (iI (c + z_4))), (0, .int (iI t)), (1, .ref (adr L 14 0 0)), (2, .ref (adr L 15 0 0)), (3, .ref (adr L 16 0 0)), (4, .ref (adr L 17 0 0)), (6, .int (iI i))] (by decide) rfl dL_passes_37 ?_
        refine v_iinc (pc := 39) C 6 [(6, .int (iI (i + 1))), (5, .int (iI (c + z_4))), (0, .int (iI t)), (1, .ref (adr L 14 0 0)), (2, .ref (adr L 15 0 0)), (3, .ref (adr L 16 0 0)), (4, .ref (adr L 17 0 0))] rfl (by decide) rfl dL_passes_39 ?_
        refine v_goto (pc := 42) C 6 (by decide) dL_passes_42 ?_
        refine v_lsub [2, 3, 4, 5, 6, 1, 0] rfl ?_
        exact ih6 u_3 (i + 1) (c + z_4) (by omega) (by omega) (by rw [show (i + 1).toNat = i.toNat + 1 by omega]; exact ⟨h, c, _, hl, hL, rfl⟩) (by exact wq_lt hw (by omega) (fun j a b => by have h1 := hb j a b; have h2 := hcb j a b; omega) hL) (by rw [hL.2.2.1 3 (by decide) (by decide) (by decide)]; have := ltA_3 h; show ltA h 14 0 0 3 = _; omega) (by exact fun j a b => by (have h1 := (hL.2.2.2.2.2.1 j a b).2; have h2 := hb j a b; have h3 : ltA h 15 0 0 j = h 15 0 0 j := (by rw [ltA_f h (by decide)]); omega)) (by exact fun f hf => by rw [hL.2.2.2.2.1 f hf]; show ltA h f = _; rw [ltA_f h (by omega)]; exact hff f hf) (by omega)
  refine v_lsub [2, 3, 4, 5, 6, 1, 0] rfl ?_
  exact lb6 _ g 0 0 (by omega) (by omega) (by exact ⟨rfl, rfl⟩) (by exact hq) (by omega) (by exact fun j a b => by omega) (by exact fun _ _ => rfl) (Nat.lt_succ_self _)
