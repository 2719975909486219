/-! copies of canyons, rows of the reference -/
def ck (g : St) (k n : Int) : Prop := wf g k 1 ∧ (∀ p, 0 ≤ p → p < 4 → eOf g k p ≤ 6) ∧ bd g k n
def sameK (u : St) (k : Int) (g : St) (o : Int) : Prop := (∀ i, 0 ≤ i → i ≤ 2 → u 1 k 0 i = g 1 o 0 i ∧ u 2 k 0 i = g 2 o 0 i ∧ u 3 k 0 i = g 3 o 0 i) ∧ (∀ p x, 0 ≤ p → p < 4 → 0 ≤ x → x < 6 → u 6 k p x = g 6 o p x) ∧ els u k = els g o
def pmK (g : St) (k : Int) : Prop := (∀ i, 0 ≤ i → i < 24 → 0 ≤ g 5 k 0 i ∧ g 5 k 0 i < 24) ∧ (∀ i j, 0 ≤ i → i < 24 → 0 ≤ j → j < 24 → g 5 k 0 i = g 5 k 0 j → i = j)
theorem pm_of {g : St} {k d : Int} (h : wf g k d) : pmK g k := ⟨h.2.2.2.2.2.2.2.2.2.1, h.2.2.2.2.2.2.2.2.2.2.1⟩
theorem cpE_n7 (g : St) (k o : Int) {f : Nat} (h : f ≠ 7) : ∀ n : Nat, cpE g k o n f = cp3 g k o 4 f
  | 0 => rfl
  | n + 1 => by rw [cpE, cp7_f _ _ _ _ _ h]; exact cpE_n7 g k o h n
theorem cpE_7 {g : St} {k o : Int} (hko : k ≠ o) (hp : pmK g k) : ∀ n : Nat, (n : Int) ≤ 24 → ∀ i q : Int, 0 ≤ i → i < n → 0 ≤ q → q ≤ 4 → cpE g k o n 7 k (g 5 k 0 i) q = g 7 o (g 5 o 0 i) q
  | 0, _, i, q, h0, h1, _, _ => by omega
  | n + 1, hn, i, q, h0, h1, q0, q4 => by
    have ih := cpE_7 hko hp n (by omega) i q h0
    have o7 : ∀ j x, cpE g k o n 7 o j x = g 7 o j x := fun j x => cpE_o g k o hko 7 j x n
    rw [cpE]
    unfold cp7
    by_cases hi : i = n
    · subst hi
      have hq : q = 0 ∨ q = 1 ∨ q = 2 ∨ q = 3 ∨ q = 4 := by omega
      rcases hq with rfl | rfl | rfl | rfl | rfl
      · rw [up_i (by decide), up_i (by decide), up_i (by decide), up_i (by decide), up_s, o7]
      · rw [up_i (by decide), up_i (by decide), up_i (by decide), up_s, o7]
      · rw [up_i (by decide), up_i (by decide), up_s, o7]
      · rw [up_i (by decide), up_s, o7]
      · rw [up_s, o7]
    · have hj : g 5 k 0 i ≠ g 5 k 0 n := fun he => hi (hp.2 i n h0 (by omega) (by omega) (by omega) he)
      rw [up_j hj, up_j hj, up_j hj, up_j hj, up_j hj]
      exact ih (by omega) q0 q4
theorem cp_same {g : St} {k o : Int} (hko : k ≠ o) (hw : wf g o 1) (hp : pmK g k) {n : Nat} (hn : n = (g 1 o 0 2).toNat) : sameK (cpE g k o n) k g o := by
  have hN := hw.2.2.2.2.2.2.2.1
  have e1 : ∀ i, 0 ≤ i → i ≤ 2 → cpE g k o n 1 k 0 i = g 1 o 0 i := fun i a b => by
    rw [cpE_n7 _ _ _ (by decide)]; unfold cp3 cp2 cp1; rw [if_neg (by omega), if_neg (by omega), if_pos ⟨rfl, rfl, rfl, a, b⟩]
  refine ⟨fun i a b => ⟨e1 i a b, ?_, ?_⟩, fun p x a b c d => ?_, ?_⟩
  · rw [cpE_n7 _ _ _ (by decide)]; unfold cp3 cp2; rw [if_neg (by omega), if_pos ⟨rfl, rfl, rfl, a, b⟩]
  · rw [cpE_n7 _ _ _ (by decide)]; unfold cp3 cp2 cp1; rw [if_neg (by omega), if_neg (by omega), if_neg (by omega), if_pos ⟨rfl, rfl, rfl, a, b⟩]
  · rw [cpE_n7 _ _ _ (by decide)]; unfold cp3; rw [if_pos ⟨rfl, rfl, ⟨a, b⟩, c, by omega⟩]
  · unfold els
    rw [e1 2 (by decide) (by decide)]
    refine List.map_congr_left (fun i hi => ?_)
    have hi := List.mem_range.mp hi
    have q := cpE_7 hko hp n (by omega) i
    unfold ev eF
    rw [cpE_5, q 0 (by omega) (by omega) (by decide) (by decide), q 1 (by omega) (by omega) (by decide) (by decide), q 2 (by omega) (by omega) (by decide) (by decide), q 3 (by omega) (by omega) (by decide) (by decide), q 4 (by omega) (by omega) (by decide) (by decide)]
theorem same_fk {g u : St} {k : Int} (h : ∀ f : Nat, 1 ≤ f → f ≤ 7 → u f k = g f k) : sameK u k g k := by
  refine ⟨fun i _ _ => ⟨by rw [h 1 (by decide) (by decide)], by rw [h 2 (by decide) (by decide)], by rw [h 3 (by decide) (by decide)]⟩, fun p x _ _ _ _ => by rw [h 6 (by decide) (by decide)], ?_⟩
  unfold els ev eF
  rw [h 1 (by decide) (by decide), h 5 (by decide) (by decide), h 7 (by decide) (by decide)]
theorem same_tr {g u v : St} {k o q : Int} (h : sameK v q u k) (h2 : sameK u k g o) : sameK v q g o := ⟨fun i a b => by
  have x := h.1 i a b
  have y := h2.1 i a b
  exact ⟨x.1.trans y.1, x.2.1.trans y.2.1, x.2.2.trans y.2.2⟩, fun p x a b c d => (h.2.1 p x a b c d).trans (h2.2.1 p x a b c d), h.2.2.trans h2.2.2⟩
theorem same_ev {u g : St} {k o i : Int} (h : sameK u k g o) (h0 : 0 ≤ i) (h1 : i < g 1 o 0 2) : ev u k i = ev g o i := by
  have e := congrArg (fun l : List E5 => l[i.toNat]?) h.2.2
  have n := (h.1 2 (by decide) (by decide)).1
  have e : (els u k)[i.toNat]? = (els g o)[i.toNat]? := e
  rw [els_get, els_get, n, if_pos (by omega), if_pos (by omega), show ((i.toNat : Nat) : Int) = i by omega] at e
  exact Option.some.inj e
theorem ck_same {u g : St} {k o n : Int} (h : sameK u k g o) (hp : pmK u k) (hc : ck g o n) : ck u k n := by
  obtain ⟨⟨hS0, hS1, hS2, hB0, hB1, hB2, hCl, hN, hPl, hPm, hPj, hEc, hSo⟩, h6, hb⟩ := hc
  have a0 := h.1 0 (by decide) (by decide)
  have a1 := h.1 1 (by decide) (by decide)
  have a2 := h.1 2 (by decide) (by decide)
  have comp : ∀ i, 0 ≤ i → i < g 1 o 0 2 → u 7 k (u 5 k 0 i) 0 = g 7 o (g 5 o 0 i) 0 ∧ u 7 k (u 5 k 0 i) 1 = g 7 o (g 5 o 0 i) 1 ∧ u 7 k (u 5 k 0 i) 2 = g 7 o (g 5 o 0 i) 2 ∧ u 7 k (u 5 k 0 i) 3 = g 7 o (g 5 o 0 i) 3 ∧ u 7 k (u 5 k 0 i) 4 = g 7 o (g 5 o 0 i) 4 := fun i x y => by
    have e := same_ev h x y
    exact ⟨congrArg (fun x : E5 => x.1) e, congrArg (fun x : E5 => x.2.1) e, congrArg (fun x : E5 => x.2.2.1) e, congrArg (fun x : E5 => x.2.2.2.1) e, congrArg (fun x : E5 => x.2.2.2.2) e⟩
  refine ⟨⟨by omega, by omega, by omega, by omega, by omega, by omega, by omega, by omega, fun j x y => ?_, hp.1, hp.2, fun i x y => ?_, fun i j x y z => ?_⟩, fun p x y => ?_, fun p q x y z w => ?_, by rw [a1.1]; exact hb.2⟩
  · rw [h.2.1 j 0 x y (by decide) (by decide), a0.2.1]; exact hPl j x y
  · have c := comp i x (by omega)
    have o := hEc i x (by omega)
    unfold okE at o ⊢
    rw [c.1, c.2.1, c.2.2.1, c.2.2.2.1, c.2.2.2.2, a0.1, a0.2.1]; exact o
  · have c := comp i x (by omega)
    have d := comp j (by omega) (by omega)
    rw [c.2.2.2.1, d.2.2.2.1]; exact hSo i j x y (by omega)
  · rw [eOf_els, h.2.2, ← eOf_els]; exact h6 p x y
  · rw [h.2.1 p q x y (by omega) (by omega), a0.1]; exact hb.1 p q x y z w
theorem tieS_same {u g m : St} {k o : Int} (h : sameK u k g o) (hR : tieS g o m) : tieS u k m := by
  obtain ⟨⟨⟨s0, s1, s2⟩, ⟨r3, r4, r5, r6⟩, r7, rp, hq⟩, h2, h3⟩ := hR
  have a0 := h.1 0 (by decide) (by decide)
  have a1 := h.1 1 (by decide) (by decide)
  have a2 := h.1 2 (by decide) (by decide)
  refine ⟨⟨⟨by omega, by omega, by omega⟩, ⟨by omega, by omega, by omega, by omega⟩, by omega, fun p x a b c d => by rw [h.2.1 p x a b c d]; exact rp p x a b c d, by rw [h.2.2]; exact hq⟩, by rw [h.2.2]; exact h2, h3⟩
theorem tieS_mx {g m m2 : St} {k : Int} (h9 : m 15 0 0 9 ≤ 24) (h : ∀ x, 0 ≤ x → x < 154 → m2 15 0 0 x = m 15 0 0 x) (hR : tieS g k m) : tieS g k m2 := by
  obtain ⟨⟨⟨s0, s1, s2⟩, ⟨r3, r4, r5, r6⟩, r7, rp, hq⟩, h2, h3, h4⟩ := hR
  have em : mls m2 = mls m := by
    unfold mls
    rw [h 9 (by decide) (by decide)]
    refine List.map_congr_left (fun i hi => ?_)
    have := List.mem_range.mp hi
    unfold mev
    rw [h _ (by omega) (by omega), h _ (by omega) (by omega), h _ (by omega) (by omega), h _ (by omega) (by omega), h _ (by omega) (by omega)]
  refine ⟨⟨⟨?_, ?_, ?_⟩, ⟨?_, ?_, ?_, ?_⟩, ?_, fun p x a b c d => ?_, by rw [em]; exact hq⟩, by rw [em]; exact h2, ?_, ?_⟩
  · rw [h _ (by decide) (by decide)]; exact s0
  · rw [h _ (by decide) (by decide)]; exact s1
  · rw [h _ (by decide) (by decide)]; exact s2
  · rw [h _ (by decide) (by decide)]; exact r3
  · rw [h _ (by decide) (by decide)]; exact r4
  · rw [h _ (by decide) (by decide)]; exact r5
  · rw [h _ (by decide) (by decide)]; exact r6
  · rw [h _ (by decide) (by decide)]; exact r7
  · rw [h _ (by omega) (by omega)]; exact rp p x a b c d
  · rw [h _ (by decide) (by decide)]; exact h3
  · unfold sumM at h4 ⊢
    rw [h _ (by decide) (by decide), h _ (by decide) (by decide), h _ (by decide) (by decide), h _ (by decide) (by decide), h _ (by decide) (by decide)]; exact h4
/-- a row of the reference's saved states, as a state -/
def vw (g : St) (q : Nat) (o : Int) : St := fun _ _ _ x => g q 0 0 (o + x)
theorem fr_cp (g : St) (o : Int) (n : Nat) : fr g (cpE g 0 o n) := ⟨fun f k hk => cpE_k g 0 o hk f n, fun f hf => cpE_f g 0 o hf n⟩
/-! class and reference: all that is held -/
def hsT (g : St) : Prop := g 8 0 0 1 = g 14 0 0 3 ∧ ∀ i, 0 ≤ i → i < g 8 0 0 1 → tieS g (g 9 0 0 i) (vw g 16 (154 * i))
def slT (g : St) : Prop := ∀ a, 0 ≤ a → a < 2 → g 11 0 0 a = g 18 0 0 a ∧ (g 11 0 0 a = 0 ∨ (g 11 0 0 a = 1 ∧ tieS g (1 + a) (vw g 17 (154 * a))))
def txT (g : St) : Prop := g 12 0 0 1 = g 14 0 0 7 ∧ ∀ i, 0 ≤ i → i < 60 → g 13 0 0 i = g 19 0 0 i
def INV (g : St) (n : Int) : Prop := wh g ∧ (∀ k, 0 ≤ k → k < 9 → ck g k n) ∧ wt g ∧ wb g ∧ tieS g 0 g ∧ hsT g ∧ slT g ∧ txT g
theorem INV_wA {g : St} {n : Int} (h : INV g n) : wA g := fun c a b => (h.2.1 c a b).1
theorem INV_wf {g : St} {n : Int} (h : INV g n) : wf g 0 1 := (h.2.1 0 (by decide) (by decide)).1
theorem INV_c6 {g : St} {n : Int} (h : INV g n) : c6 g := (h.2.1 0 (by decide) (by decide)).2.1
theorem INV_wm {g : St} {n : Int} (h : INV g n) : wm (g 15 0 0) 1 := wm_of (INV_wf h) h.2.2.2.2.1
theorem INV_n6 {g : St} {n : Int} (h : INV g n) : n6M g := c6_tie h.2.2.2.2.1.1 (INV_c6 h)
theorem INV_3 {g : St} {n : Int} (h : INV g n) : 0 ≤ g 14 0 0 3 ∧ g 14 0 0 3 ≤ 6 := by
  have a := h.1.1
  have b := h.2.2.2.2.2.1.1
  omega
theorem ck_mono {g : St} {k n n2 : Int} (h : n ≤ n2) (hc : ck g k n) : ck g k n2 := ⟨hc.1, hc.2.1, bd_mono h hc.2.2⟩
theorem ck_fk {g u : St} {k n : Int} (h : ∀ f : Nat, 1 ≤ f → f ≤ 7 → u f k = g f k) (hc : ck g k n) : ck u k n := ck_same (same_fk h) (by have := pm_of hc.1; unfold pmK at *; rw [h 5 (by decide) (by decide)]; exact this) hc
theorem vw_x {g u : St} {q : Nat} (h : u q = g q) (o : Int) : vw u q o = vw g q o := by unfold vw; rw [h]
/-- nothing but scratch numbers has changed -/
theorem INV_z {g v : St} {n : Int} (h : INV g n) (hc : ∀ (f : Nat) (k : Int), f ≤ 13 → ¬ (f = 3 ∧ k = 9) → v f k = g f k) (h3 : v 14 0 0 3 = g 14 0 0 3) (h7 : v 14 0 0 7 = g 14 0 0 7) (h8 : 0 ≤ v 14 0 0 8 ∧ v 14 0 0 8 ≤ 100) (hm : ∀ f : Nat, 15 ≤ f → f ≤ 19 → v f = g f) : INV v n := by
  obtain ⟨a1, a2, a3, a4, a5, ⟨a6, a7⟩, a8, a9⟩ := h
  have e8 := hc 8 0 (by decide) (by omega)
  have e9 := hc 9 0 (by decide) (by omega)
  have e11 := hc 11 0 (by decide) (by omega)
  have e12 := hc 12 0 (by decide) (by omega)
  have e13 := hc 13 0 (by decide) (by omega)
  have fk : ∀ k : Int, k < 9 → ∀ f : Nat, 1 ≤ f → f ≤ 7 → v f k = g f k := fun k hk f x y => hc f k (by omega) (by omega)
  refine ⟨by unfold wh; rw [e8, e9]; exact a1, fun k x y => ck_fk (fk k y) (a2 k x y), by unfold wt; rw [e12, e13]; exact a3, ?_, tieS_m (hm 15 (by decide) (by decide)) (tieS_same (same_fk (fk 0 (by decide))) a5), ?_, fun a x y => ?_, ?_⟩
  · unfold wb at a4 ⊢
    rw [h7, hm 19 (by decide) (by decide)]; exact ⟨a4.1, h8, a4.2.2⟩
  · refine ⟨by rw [e8, h3]; exact a6, fun i x y => ?_⟩
    rw [e8] at y
    have q := a1.2.1 i x (by have := a1.1; omega)
    rw [e9, vw_x (hm 16 (by decide) (by decide))]
    exact tieS_same (same_fk (fk _ (by omega))) (a7 i x y)
  · rw [e11, hm 18 (by decide) (by decide), vw_x (hm 17 (by decide) (by decide))]
    have q := a8 a x y
    exact ⟨q.1, q.2.imp id (fun r => ⟨r.1, tieS_same (same_fk (fk _ (by omega))) r.2⟩)⟩
  · unfold txT
    rw [e12, e13, h7, hm 19 (by decide) (by decide)]; exact a9
theorem svA_cg {u g : St} (h14 : u 14 0 0 3 = g 14 0 0 3) (h15 : u 15 = g 15) (h16 : u 16 = g 16) : svA u 14 0 0 3 = svA g 14 0 0 3 ∧ svA u 15 = svA g 15 ∧ svA u 16 = svA g 16 := by
  unfold svA
  rw [h14]
  split
  · refine ⟨by rw [up_s, up_s], ?_, ?_⟩
    · rw [up_ff (by decide), up_ff (by decide)]
      funext k j i; simp only [shM]; rw [h15, if_neg (by omega), if_neg (by omega)]
    · rw [up_ff (by decide), up_ff (by decide)]
      funext k j i; simp only [shM]; rw [h16]
  · exact ⟨h14, h15, h16⟩
theorem svM_cg {u g : St} (h14 : u 14 0 0 3 = g 14 0 0 3) (h15 : u 15 = g 15) (h16 : u 16 = g 16) : svM u 14 0 0 3 = svM g 14 0 0 3 ∧ svM u 16 = svM g 16 := by
  obtain ⟨a, b, c⟩ := svA_cg h14 h15 h16
  unfold svM
  refine ⟨by rw [up_s, up_s, a], ?_⟩
  rw [up_ff (by decide), up_ff (by decide)]
  funext k j i; simp only [cpM]; rw [a, b, c]
theorem svM_t0 {u g : St} (h14 : u 14 = g 14) (h15 : u 15 = g 15) (h16 : u 16 = g 16) : svM (t0 u) 14 0 0 3 = svM (t0 g) 14 0 0 3 ∧ svM (t0 u) 16 = svM (t0 g) 16 :=
  svM_cg (by rw [t0_3, t0_3, h14]) (by rw [t0_f (by decide), t0_f (by decide)]; exact h15) (by rw [t0_f (by decide), t0_f (by decide)]; exact h16)
/-- an undoable change -/
theorem undo_S {g v : St} {n : Int} (hI : INV g n) (h1 : ∀ (f : Nat) (k : Int), 1 ≤ f → f ≤ 7 → k ≠ 0 → k < 9 → v f k = svG g 0 f k) (h8 : ∀ f : Nat, 8 ≤ f → f ≤ 11 → v f 0 = svG g 0 f 0) (hm3 : v 14 0 0 3 = svM (t0 g) 14 0 0 3) (hm16 : v 16 = svM (t0 g) 16) (h17 : v 17 = g 17) (h18 : v 18 = g 18) (hck : ck v 0 (n + 60)) (hT : tieS v 0 v) (ht : wt v) (hb : wb v) (hx : txT v) : INV v (n + 60) := by
  have hwm := INV_wm hI
  obtain ⟨a1, a2, a3, a4, a5, ⟨a6, a7⟩, a8, a9⟩ := hI
  have hwd := svD_wh a1
  have hs := svD_8 a1
  have hc := hwd.2.1 (svD g 8 0 0 1) (by omega) (by omega)
  have e8 : v 8 0 0 1 = svD g 8 0 0 1 + 1 := by rw [h8 8 (by decide) (by decide)]; unfold svG; rw [up_s]
  have e9 : ∀ i, v 9 0 0 i = svD g 9 0 0 i := fun i => by rw [h8 9 (by decide) (by decide)]; unfold svG; rw [up_ff (by decide), cpE_f _ _ _ (by decide)]
  have e11 : v 11 0 = g 11 0 := by rw [h8 11 (by decide) (by decide)]; unfold svG; rw [up_ff (by decide), cpE_f _ _ _ (by decide), svD_f _ (by decide) (by decide)]
  have svf : ∀ f : Nat, 1 ≤ f → f ≤ 7 → svD g f = g f := fun f x y => svD_f g (by omega) (by omega)
  have wfD : ∀ k, 0 ≤ k → k < 9 → wf (svD g) k 1 := fun k x y => wf_ff svf (a2 k x y).1
  have sc : sameK v (svD g 9 0 0 (svD g 8 0 0 1)) g 0 := by
    have q1 := cp_same (g := svD g) (k := svD g 9 0 0 (svD g 8 0 0 1)) (o := 0) (by omega) (wfD 0 (by decide) (by decide)) (pm_of (wfD _ (by omega) (by omega))) rfl
    have q2 : sameK (svD g) 0 g 0 := same_fk (fun f x y => by rw [svf f x y])
    have q3 : sameK v (svD g 9 0 0 (svD g 8 0 0 1)) (cpE (svD g) (svD g 9 0 0 (svD g 8 0 0 1)) 0 (svD g 1 0 0 2).toNat) (svD g 9 0 0 (svD g 8 0 0 1)) := same_fk (fun f x y => by
      rw [h1 f _ x y (by omega) (by omega)]; unfold svG; rw [up_ff (by omega)])
    exact same_tr q3 (same_tr q1 q2)
  have so : ∀ k, k ≠ 0 → k < 9 → k ≠ svD g 9 0 0 (svD g 8 0 0 1) → ∀ f : Nat, 1 ≤ f → f ≤ 7 → v f k = g f k := fun k x y z f p q => by
    rw [h1 f k p q x y]; unfold svG; rw [up_ff (by omega), cpE_k _ _ _ z, svf f p q]
  have s0 : 0 < (6 : Int) := by decide
  refine ⟨?_, fun k x y => ?_, ht, hb, hT, ⟨?_, fun i x y => ?_⟩, fun a x y => ?_, hx⟩
  · refine ⟨by rw [e8]; omega, fun i x y => by rw [e9]; exact hwd.2.1 i x y, fun i j x y z w he => ?_⟩
    rw [e9, e9] at he; exact hwd.2.2 i j x y z w he
  · by_cases k0 : k = 0
    · subst k0; exact hck
    · by_cases kc : k = svD g 9 0 0 (svD g 8 0 0 1)
      · subst kc
        refine ck_mono (by omega) (ck_same sc ?_ (a2 0 (by decide) (by decide)))
        have p := pm_of (wfD _ x y)
        unfold pmK at p ⊢
        rw [h1 5 _ (by decide) (by decide) k0 y]; unfold svG; rw [up_ff (by decide), cpE_5]; exact p
      · exact ck_mono (by omega) (ck_fk (so k k0 y kc) (a2 k x y))
  · rw [e8, hm3]
    unfold svM
    rw [up_s]
    have : svD g 8 0 0 1 = svA (t0 g) 14 0 0 3 := by
      unfold svD svA
      rw [t0_3, ← a6]
      have hsz := a1.1
      by_cases h6 : g 8 0 0 1 = 6
      · rw [if_pos h6, if_pos (by omega), up_s, h6]; rfl
      · rw [if_neg h6, if_neg (by omega), t0_3, ← a6]
    rw [this]
  · rw [e8] at y
    have hA3 : svA (t0 g) 14 0 0 3 = svD g 8 0 0 1 := by
      unfold svD svA
      rw [t0_3, ← a6]
      have hsz := a1.1
      by_cases h6 : g 8 0 0 1 = 6
      · rw [if_pos h6, if_pos (by omega), up_s, h6]; rfl
      · rw [if_neg h6, if_neg (by omega), t0_3, ← a6]
    rw [e9]
    by_cases his : i = svD g 8 0 0 1
    · subst his
      refine tieS_mx (by have := hwm.2.2.2.2.2.2.2.1; omega) (fun z z0 z1 => ?_) (tieS_same sc a5)
      show v 16 0 0 (154 * svD g 8 0 0 1 + z) = g 15 0 0 z
      rw [hm16]; unfold svM
      rw [up_ff (by decide)]; unfold cpM
      rw [hA3, if_pos ⟨rfl, rfl, rfl, by omega, by omega⟩, svA_f _ (by decide) (by decide), t0_f (by decide)]
      congr 1; omega
    · have hd := hwd.2.1 i x (by omega)
      have hne : svD g 9 0 0 i ≠ svD g 9 0 0 (svD g 8 0 0 1) := fun he => his (hwd.2.2 i _ x (by omega) (by omega) (by omega) he)
      have row : ∀ z, 0 ≤ z → z < 154 → v 16 0 0 (154 * i + z) = svA (t0 g) 16 0 0 (154 * i + z) := fun z z0 z1 => by
        rw [hm16]; unfold svM
        rw [up_ff (by decide)]; unfold cpM
        rw [hA3, if_neg (by omega)]
      by_cases h6 : 6 ≤ g 8 0 0 1
      · have hsz := a1.1
        have s5 : svD g 8 0 0 1 = 5 := by unfold svD; rw [if_pos h6]; simp [doG]
        have d9 : svD g 9 0 0 i = g 9 0 0 (i + 1) := by unfold svD; rw [if_pos h6]; unfold doG; rw [if_pos ⟨rfl, rfl, rfl, x, by omega⟩]
        have q := a7 (i + 1) (by omega) (by omega)
        rw [← d9] at q
        have c9 := (a2 (svD g 9 0 0 i) (by omega) (by omega)).1
        have n9 := tieS_n c9 q
        refine tieS_mx (by have := c9.2.2.2.2.2.2.2.1; omega) (fun z z0 z1 => ?_) (tieS_same (same_fk (so _ (by omega) (by omega) hne)) q)
        show v 16 0 0 (154 * i + z) = g 16 0 0 (154 * (i + 1) + z)
        rw [row z z0 z1]
        unfold svA
        rw [t0_3, ← a6, if_pos (by omega), up_ff (by decide)]; unfold shM
        rw [if_pos ⟨rfl, rfl, rfl, by omega, by omega⟩, t0_f (by decide)]
        congr 1; omega
      · have hsz := a1.1
        have sD : svD g = g := by unfold svD; rw [if_neg h6]
        rw [sD] at hne hd y his ⊢
        have q := a7 i x (by omega)
        have c9 := (a2 (g 9 0 0 i) (by omega) (by omega)).1
        have n9 := tieS_n c9 q
        refine tieS_mx (by have := c9.2.2.2.2.2.2.2.1; omega) (fun z z0 z1 => ?_) (tieS_same (same_fk (so _ (by omega) (by omega) (by rw [sD]; exact hne))) q)
        show v 16 0 0 (154 * i + z) = g 16 0 0 (154 * i + z)
        rw [row z z0 z1]
        unfold svA
        rw [t0_3, ← a6, if_neg (by omega), t0_f (by decide)]
  · rw [e11, h18, vw_x h17]
    have q := a8 a x y
    exact ⟨q.1, q.2.imp id (fun r => ⟨r.1, tieS_same (same_fk (so _ (by omega) (by omega) (by omega))) r.2⟩)⟩
