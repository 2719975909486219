/-! class and law: each change -/
theorem lDl_h {g h : St} {k : Int} (s : g 2 k 0 0 = h 14 0 0 0 ∧ g 2 k 0 1 = h 14 0 0 1 ∧ g 2 k 0 2 = h 14 0 0 2) (p w : Int) : eT g k p w = lDl h p w := by
  unfold eT lDl; rw [s.1, s.2.1, s.2.2]
theorem lls_x {g u : St} (h9 : u 14 0 0 9 = g 14 0 0 9) (h16 : u 16 = g 16) (h17 : u 17 = g 17) : lls u = lls g := by
  unfold lls lev; rw [h9, h16, h17]
theorem lls_lc1 {g : St} {p w y : Int} (h9 : 0 ≤ g 14 0 0 9) (hp : 0 ≤ p ∧ p < 4) (hw : 0 ≤ w ∧ w ≤ 9) (hy : 0 ≤ y ∧ y ≤ 1) : lls (lc1 g p w y) = lls g ++ [(p, g 15 0 0 (6 * p), w, g 14 0 0 3 + lDl g (g 15 0 0 (6 * p)) y, y)] := by
  have e9 : lc1 g p w y 14 0 0 9 = g 14 0 0 9 + 1 := by unfold lc1; rw [up_s]
  unfold lls
  rw [e9, show (g 14 0 0 9 + 1).toNat = (g 14 0 0 9).toNat + 1 by omega, List.range_succ, List.map_append]
  congr 1
  · refine List.map_congr_left (fun j hj => ?_)
    have := List.mem_range.mp hj
    unfold lev lc1
    rw [up_f (by decide), up_i (by omega), up_f (by decide), up_f (by decide), up_f (by decide), up_i (by omega)]
  · have e : lev (lc1 g p w y) (g 14 0 0 9) = (p, g 15 0 0 (6 * p), w, g 14 0 0 3 + lDl g (g 15 0 0 (6 * p)) y, y) := by
      unfold lev lc1
      rw [up_f (by decide), up_s, up_f (by decide), up_f (by decide), up_s]
      have q0 : (100 * g 15 0 0 (6 * p) + 10 * p + w) / 10 % 10 = p := by omega
      have q1 : (100 * g 15 0 0 (6 * p) + 10 * p + w) / 100 = g 15 0 0 (6 * p) := by omega
      have q2 : (100 * g 15 0 0 (6 * p) + 10 * p + w) % 10 = w := by omega
      have q3 : (2 * (g 14 0 0 3 + lDl g (g 15 0 0 (6 * p)) y) + y) / 2 = g 14 0 0 3 + lDl g (g 15 0 0 (6 * p)) y := by omega
      have q4 : (2 * (g 14 0 0 3 + lDl g (g 15 0 0 (6 * p)) y) + y) % 2 = y := by omega
      rw [q0, q1, q2, q3, q4]
    simp only [List.map_cons, List.map_nil, show (((g 14 0 0 9).toNat : Nat) : Int) = g 14 0 0 9 by omega, e]
theorem lcA_x {g : St} {p w x : Int} (h8 : x ≠ 8) (h9 : x ≠ 9) : lcA g p w 14 0 0 x = g 14 0 0 x := by
  unfold lcA lc1
  rw [up_f (by decide), up_i h8, up_i h9, up_f (by decide), up_f (by decide), up_i h9, up_f (by decide), up_f (by decide)]
theorem lcA_9 (g : St) (p w : Int) : lcA g p w 14 0 0 9 = g 14 0 0 9 + 2 := by
  unfold lcA
  rw [up_f (by decide), up_i (by decide)]
  unfold lc1
  rw [up_s, up_s]; omega
theorem lcA_8 (g : St) (p w : Int) : lcA g p w 14 0 0 8 = g 14 0 0 8 + 2 := by unfold lcA; rw [up_f (by decide), up_s]
theorem lc1_f (g : St) (p w y : Int) {f : Nat} (h14 : f ≠ 14) (h16 : f ≠ 16) (h17 : f ≠ 17) : lc1 g p w y f = g f := by unfold lc1; rw [up_ff h14, up_ff h17, up_ff h16]
theorem lcA_15 (g : St) (p w j : Int) : lcA g p w 15 0 0 j = if j = 6 * p + 2 then g 15 0 0 (6 * p + 2) + 1 else g 15 0 0 j := by
  unfold lcA
  split
  · rename_i h; subst h; rw [up_s]
  · rename_i h; rw [up_i h, up_f (by decide), lc1_f _ _ _ _ (by decide) (by decide) (by decide), lc1_f _ _ _ _ (by decide) (by decide) (by decide)]
theorem lcA_f (g : St) (p w : Int) {f : Nat} (h14 : f ≠ 14) (h15 : f ≠ 15) (h16 : f ≠ 16) (h17 : f ≠ 17) : lcA g p w f = g f := by
  unfold lcA; rw [up_ff h15, up_ff h14, lc1_f _ _ _ _ h14 h16 h17, lc1_f _ _ _ _ h14 h16 h17]
theorem lls_lcA {g : St} {p w : Int} (h9 : 0 ≤ g 14 0 0 9) (hp : 0 ≤ p ∧ p < 4) (hw : 0 ≤ w ∧ w ≤ 9) : lls (lcA g p w) = (lls g ++ [(p, g 15 0 0 (6 * p), w, g 14 0 0 3 + lDl g (g 15 0 0 (6 * p)) 0, 0)]) ++ [(p, g 15 0 0 (6 * p), w, g 14 0 0 3 + lDl g (g 15 0 0 (6 * p)) 1, 1)] := by
  have e1 : lls (lcA g p w) = lls (lc1 (lc1 g p w 0) p w 1) := by
    unfold lcA
    exact lls_x (by rw [up_f (by decide), up_i (by decide)]) (by rw [up_ff (by decide), up_ff (by decide)]) (by rw [up_ff (by decide), up_ff (by decide)])
  have x9 : lc1 g p w 0 14 0 0 9 = g 14 0 0 9 + 1 := by unfold lc1; rw [up_s]
  have x3 : lc1 g p w 0 14 0 0 3 = g 14 0 0 3 := by unfold lc1; rw [up_i (by decide), up_f (by decide), up_f (by decide)]
  rw [e1, lls_lc1 (by rw [x9]; omega) hp hw (by decide), lls_lc1 h9 hp hw (by decide), lc1_dl, x3, lc1_f _ _ _ _ (by decide) (by decide) (by decide)]
/-- a call -/
theorem du_0 {c u h : St} {a b z : Int} (hw : wf c 0 1) (h6 : c6 c) (ha : 0 ≤ a ∧ a < 4) (hb : 0 ≤ b ∧ b ≤ 9) (hR : tieS c 0 (em h)) (hs : se c u 0 a b z) : tieS u 0 (em (lcG h a b)) ∧ z = lcR h a := by
  have s := se_S hw h6 ha hb hR hs
  obtain ⟨t1, t2⟩ := s
  have e9 := em_q (g := h) (x := 9) (by decide) (by decide)
  have h9 := (tieL hR).2.2.2.2.2.1
  have hn : 0 ≤ em h 15 0 0 9 := by rw [e9]; exact h9
  have ep : em h 15 0 0 (10 + 6 * a + 0) = h 15 0 0 (6 * a) := by rw [em_p ha (by decide), show 6 * a + 0 = 6 * a by omega]
  refine ⟨?_, ?_⟩
  · unfold lcG
    unfold dcM at t1
    rw [lUw_em] at t1
    by_cases h4 : 4 < lUw h a
    · rw [if_pos (show 6 < lUw h a + 2 by omega)] at t1
      rw [if_pos h4]
      refine tieS_sim t1 (fun x x0 x9 => ?_) (fun p x p0 p4 x0 x6 => ?_) ?_ ?_
      · by_cases h7 : x = 7
        · subst h7; rw [em_q (by decide) (by decide), up_s, up_s, em_q (by decide) (by decide)]
        · rw [up_i h7, em_lo (by omega), em_lo (by omega), up_i (by decide), up_i h7]
      · rw [up_i (by omega), em_p ⟨p0, p4⟩ ⟨x0, x6⟩, em_p ⟨p0, p4⟩ ⟨x0, x6⟩, up_f (by decide)]
      · rw [mls_x (u := up (em h) 15 0 0 7 (em h 15 0 0 7 + 1)) (g := em h) (fun x hx => up_i (by omega)), mls_em, mls_em]
        exact lls_x (up_i (by decide)) (up_ff (by decide)) (up_ff (by decide))
      · rw [em_q (by decide) (by decide), up_i (by decide)]; exact h9
    · rw [if_neg (show ¬ 6 < lUw h a + 2 by omega)] at t1
      rw [if_neg h4]
      have q8 : dcG (em h) a b 15 0 0 8 = h 14 0 0 8 + 2 := by unfold dcG; rw [up_i (by omega), up_s, em_q (by decide) (by decide)]
      have q2 : dcG (em h) a b 15 0 0 (10 + 6 * a + 2) = h 15 0 0 (6 * a + 2) + 1 := by
        unfold dcG; rw [up_s, em_p ha (by decide)]
      refine tieS_sim t1 (fun x x0 x9 => ?_) (fun p x p0 p4 x0 x6 => ?_) ?_ ?_
      · by_cases h8 : x = 8
        · subst h8; rw [q8, em_q (by decide) (by decide), lcA_8]
        · rw [dcG_lo ha hn (by omega) (by omega) h8 (by omega), em_lo (by omega), em_lo (by omega), lcA_x (by decide) (by decide), lcA_x h8 (by omega)]
      · rw [em_p ⟨p0, p4⟩ ⟨x0, x6⟩, lcA_15]
        by_cases hx : 6 * p + x = 6 * a + 2
        · have hpa : p = a := by omega
          have hx2 : x = 2 := by omega
          subst hpa; subst hx2
          rw [if_pos rfl, q2]
        · rw [if_neg hx, dcG_lo ha hn (by omega) (by omega) (by omega) (by omega), em_p ⟨p0, p4⟩ ⟨x0, x6⟩]
      · have q1 : mls (dcG (em h) a b) = mls (dcA (em h) a b) := mls_x (fun x hx => by unfold dcG; rw [up_i (by omega), up_i (by omega)])
        have a3 : adM (em h) a b 0 15 0 0 3 = em h 15 0 0 3 := ad_lo hn (by decide) (by decide)
        have ap : adM (em h) a b 0 15 0 0 (10 + 6 * a + 0) = em h 15 0 0 (10 + 6 * a + 0) := ad_lo hn (by omega) (by omega)
        have am : ∀ x y, mDl (adM (em h) a b 0) x y = mDl (em h) x y := fun x y => by
          show dly (adM (em h) a b 0 15 0 0 0) (adM (em h) a b 0 15 0 0 1) (adM (em h) a b 0 15 0 0 2) x y = _
          rw [ad_lo hn (by decide) (by decide), ad_lo hn (by decide) (by decide), ad_lo hn (by decide) (by decide)]
        rw [q1, mls_em, lls_lcA h9 ha hb]
        unfold dcA
        rw [mls_ad (by rw [ad_9]; omega), mls_ad hn, a3, ap, am, ep, lDl_em, lDl_em, em_q (x := 3) (by decide) (by decide), mls_em]
      · rw [em_q (by decide) (by decide), lcA_9]; omega
  · rw [t2]
    unfold dcR lcR
    rw [lUw_em, lD1_em ha, lD1_em ha]
    by_cases h4 : 4 < lUw h a
    · rw [if_pos (by omega), if_pos h4]
    · rw [if_neg (by omega), if_neg h4]
/-- a walk -/
theorem du_1 {c h : St} {a b : Int} (ha : 0 ≤ a ∧ a < 4) (hR : tieS c 0 (em h)) : tieS (mvG c 0 a b) 0 (em (lvG h a b)) ∧ mvR c 0 a b = lvR h a b := by
  obtain ⟨t1, t2⟩ := mv_S (b := b) ha hR
  have h9 := (tieL hR).2.2.2.2.2.1
  have ep : em h 15 0 0 (10 + 6 * a + 0) = h 15 0 0 (6 * a) := by rw [em_p ha (by decide), show 6 * a + 0 = 6 * a by omega]
  have e0 := em_q (g := h) (x := 0) (by decide) (by decide)
  refine ⟨?_, ?_⟩
  · unfold lvG
    unfold mvGM mvOM at t1
    rw [ep, e0] at t1
    by_cases h4 : 0 ≤ h 15 0 0 (6 * a) + b ∧ h 15 0 0 (6 * a) + b ≤ h 14 0 0 0
    · rw [if_neg (by omega)] at t1
      rw [if_pos h4]
      refine tieS_sim t1 (fun x x0 x9 => ?_) (fun p x p0 p4 x0 x6 => ?_) ?_ ?_
      · rw [up_i (by omega), em_lo (by omega), em_lo (by omega), up_f (by decide), up_f (by decide)]
      · rw [em_p ⟨p0, p4⟩ ⟨x0, x6⟩]
        by_cases hx : 6 * p + x = 6 * a
        · have hpa : p = a := by omega
          have hx0 : x = 0 := by omega
          subst hpa; subst hx0
          rw [up_s, show 6 * p + 0 = 6 * p by omega, up_s]
        · rw [up_i hx, up_i (by omega), em_p ⟨p0, p4⟩ ⟨x0, x6⟩]
      · rw [mls_x (g := em h) (fun x hx => up_i (by omega)), mls_em, mls_em]
        exact lls_x (up_f (by decide)) (up_ff (by decide)) (up_ff (by decide))
      · rw [em_q (by decide) (by decide), up_f (by decide)]; exact h9
    · rw [if_pos (by omega)] at t1
      rw [if_neg h4]
      refine tieS_sim t1 (fun x x0 x9 => ?_) (fun p x p0 p4 x0 x6 => ?_) ?_ ?_
      · by_cases h7 : x = 7
        · subst h7; rw [em_q (by decide) (by decide), up_s, up_s, em_q (by decide) (by decide)]
        · rw [up_i h7, em_lo (by omega), em_lo (by omega), up_i (by decide), up_i h7]
      · rw [up_i (by omega), em_p ⟨p0, p4⟩ ⟨x0, x6⟩, em_p ⟨p0, p4⟩ ⟨x0, x6⟩, up_f (by decide)]
      · rw [mls_x (g := em h) (fun x hx => up_i (by omega)), mls_em, mls_em]
        exact lls_x (up_i (by decide)) (up_ff (by decide)) (up_ff (by decide))
      · rw [em_q (by decide) (by decide), up_i (by decide)]; exact h9
  · rw [t2]
    unfold mvRM mvOM lvR
    rw [ep, e0]
    by_cases h4 : 0 ≤ h 15 0 0 (6 * a) + b ∧ h 15 0 0 (6 * a) + b ≤ h 14 0 0 0
    · rw [if_neg (by omega), if_pos h4]
    · rw [if_pos (by omega), if_neg h4]
/-- the ball thrown -/
theorem du_2 {c h : St} {a s r q : Int} (hR : tieS c 0 (em h)) (hr : r = (q + 1) / 2) : tieS (up (up (up c 3 0 0 0 a) 3 0 0 1 s) 3 0 0 2 r) 0 (em (up (up (up h 14 0 0 4 a) 14 0 0 5 s) 14 0 0 6 q)) := by
  obtain ⟨⟨s0, s1, s2⟩, ⟨r3, r4, r5, r6⟩, r7, rp, he, h9, h8⟩ := tieL hR
  have f := fun {f : Nat} (hf : f ≠ 3) => show up (up (up c 3 0 0 0 a) 3 0 0 1 s) 3 0 0 2 r f = c f by rw [up_ff hf, up_ff hf, up_ff hf]
  have f2 := fun {f : Nat} (hf : f ≠ 14) => show up (up (up h 14 0 0 4 a) 14 0 0 5 s) 14 0 0 6 q f = h f by rw [up_ff hf, up_ff hf, up_ff hf]
  have fx2 := fun {x : Int} (h4 : x ≠ 4) (h5 : x ≠ 5) (h6 : x ≠ 6) => show up (up (up h 14 0 0 4 a) 14 0 0 5 s) 14 0 0 6 q 14 0 0 x = h 14 0 0 x by rw [up_i h6, up_i h5, up_i h4]
  refine tieL_mk ⟨?_, ?_, ?_⟩ ⟨?_, ?_, ?_, ?_⟩ ?_ (fun p x p0 p4 x0 x6 => ?_) ?_ ?_ ?_
  · rw [f (by decide), fx2 (by decide) (by decide) (by decide)]; exact s0
  · rw [f (by decide), fx2 (by decide) (by decide) (by decide)]; exact s1
  · rw [f (by decide), fx2 (by decide) (by decide) (by decide)]; exact s2
  · rw [f (by decide), fx2 (by decide) (by decide) (by decide)]; exact r3
  · rw [up_i (by decide), up_i (by decide), up_s, up_i (by decide), up_i (by decide), up_s]
  · rw [up_i (by decide), up_s, up_i (by decide), up_s]
  · rw [up_s, up_s]; exact hr
  · rw [f (by decide), fx2 (by decide) (by decide) (by decide)]; exact r7
  · rw [f (by decide), f2 (by decide)]; exact rp p x p0 p4 x0 x6
  · rw [lls_x (fx2 (by decide) (by decide) (by decide)) (f2 (by decide)) (f2 (by decide)), ← he]
    exact els_x (by rw [f (by decide)]) (f (by decide)) (f (by decide))
  · rw [fx2 (by decide) (by decide) (by decide)]; exact h9
  · rw [fx2 (by decide) (by decide) (by decide), f2 (by decide)]; exact h8
/-- a setting -/
theorem du_3 {c h : St} {a b : Int} (ha : 0 ≤ a ∧ a < 3) (hR : tieS c 0 (em h)) : tieS (up c 2 0 0 a b) 0 (em (up h 14 0 0 a b)) := by
  obtain ⟨⟨s0, s1, s2⟩, ⟨r3, r4, r5, r6⟩, r7, rp, he, h9, h8⟩ := tieL hR
  have f := fun {f : Nat} (hf : f ≠ 2) => show up c 2 0 0 a b f = c f from up_ff hf
  have f2 := fun {f : Nat} (hf : f ≠ 14) => show up h 14 0 0 a b f = h f from up_ff hf
  have fx2 := fun {x : Int} (h3 : 3 ≤ x) => show up h 14 0 0 a b 14 0 0 x = h 14 0 0 x from up_i (by omega)
  have st : ∀ x, c 2 0 0 x = h 14 0 0 x → up c 2 0 0 a b 2 0 0 x = up h 14 0 0 a b 14 0 0 x := fun x hx => by
    by_cases hxa : x = a
    · subst hxa; rw [up_s, up_s]
    · rw [up_i hxa, up_i hxa]; exact hx
  refine tieL_mk ⟨st 0 s0, st 1 s1, st 2 s2⟩ ⟨?_, ?_, ?_, ?_⟩ ?_ (fun p x p0 p4 x0 x6 => ?_) ?_ ?_ ?_
  · rw [f (by decide), fx2 (by decide)]; exact r3
  · rw [f (by decide), fx2 (by decide)]; exact r4
  · rw [f (by decide), fx2 (by decide)]; exact r5
  · rw [f (by decide), fx2 (by decide)]; exact r6
  · rw [f (by decide), fx2 (by decide)]; exact r7
  · rw [f (by decide), f2 (by decide)]; exact rp p x p0 p4 x0 x6
  · rw [lls_x (fx2 (by decide)) (f2 (by decide)) (f2 (by decide)), ← he]
    exact els_x (by rw [f (by decide)]) (f (by decide)) (f (by decide))
  · rw [fx2 (by decide)]; exact h9
  · rw [fx2 (by decide), f2 (by decide)]; exact h8
theorem lrm_fur {c h : St} {a : Int} (hR : tieS c 0 (em h)) : lrN h ≤ a ↔ fur c 0 ≤ a := by
  have e9 := em_q (g := h) (x := 9) (by decide) (by decide)
  have e4 := em_q (g := h) (x := 4) (by decide) (by decide)
  have h9 := (tieL hR).2.2.2.2.2.1
  rw [fur_tie hR.1]
  unfold furM lrN
  rw [mxN_le, mxN_le, e9, e4, mxN_le, mxN_le]
  constructor
  · rintro ⟨⟨a1, a2⟩, a3⟩
    refine ⟨⟨a1, fun p p0 p4 => ?_⟩, fun e x0 x1 => ?_⟩
    · rw [em_p ⟨p0, by omega⟩ (by decide), show 6 * p + 0 = 6 * p by omega]; exact a2 p p0 (by omega)
    · rw [(em_e x0).2.1]; exact a3 e x0 (by omega)
  · rintro ⟨⟨a1, a2⟩, a3⟩
    refine ⟨⟨a1, fun p p0 p4 => ?_⟩, fun e x0 x1 => ?_⟩
    · have := a2 p p0 (by omega)
      rw [em_p ⟨p0, p4⟩ (by decide), show 6 * p + 0 = 6 * p by omega] at this; exact this
    · have := a3 e x0 (by omega)
      rw [(em_e x0).2.1] at this; exact this
/-! what is held of the class -/
def IC (g : St) (n : Int) : Prop := wh g ∧ ∀ k, 0 ≤ k → k < 9 → ck g k n
theorem IC_wA {g : St} {n : Int} (h : IC g n) : wA g := fun c a b => (h.2 c a b).1
theorem IC_wf {g : St} {n : Int} (h : IC g n) : wf g 0 1 := (h.2 0 (by decide) (by decide)).1
theorem IC_c6 {g : St} {n : Int} (h : IC g n) : c6 g := (h.2 0 (by decide) (by decide)).2.1
theorem IC_sv {g : St} {n : Int} (h : IC g n) : ck (svG g 0) 0 n := ck_fk (svG_0 h.1) (h.2 0 (by decide) (by decide))
/-- the latest saved state -/
def lst (u : St) : Int := u 9 0 0 (u 8 0 0 1 - 1)
def svd (u g : St) : Prop := 0 < u 8 0 0 1 ∧ sameK u (lst u) g 0
theorem IC_ch {g u : St} {n : Int} (hI : IC g n) (hfr : fr (svG g 0) u) (hck : ck u 0 (n + 60)) : IC u (n + 60) ∧ svd u g := by
  obtain ⟨a1, a2⟩ := hI
  have hwd := svD_wh a1
  have hs := svD_8 a1
  have hc := hwd.2.1 (svD g 8 0 0 1) (by omega) (by omega)
  have h1 : ∀ (f : Nat) (k : Int), k ≠ 0 → u f k = svG g 0 f k := hfr.1
  have h8 : ∀ f : Nat, 8 ≤ f → u f = svG g 0 f := hfr.2
  have e8 : u 8 0 0 1 = svD g 8 0 0 1 + 1 := by rw [h8 8 (by decide)]; unfold svG; rw [up_s]
  have e9 : ∀ i, u 9 0 0 i = svD g 9 0 0 i := fun i => by rw [h8 9 (by decide)]; unfold svG; rw [up_ff (by decide), cpE_f _ _ _ (by decide)]
  have svf : ∀ f : Nat, 1 ≤ f → f ≤ 7 → svD g f = g f := fun f x y => svD_f g (by omega) (by omega)
  have wfD : ∀ k, 0 ≤ k → k < 9 → wf (svD g) k 1 := fun k x y => wf_ff svf (a2 k x y).1
  have sc : sameK u (svD g 9 0 0 (svD g 8 0 0 1)) g 0 := by
    have q1 := cp_same (g := svD g) (k := svD g 9 0 0 (svD g 8 0 0 1)) (o := 0) (by omega) (wfD 0 (by decide) (by decide)) (pm_of (wfD _ (by omega) (by omega))) rfl
    have q2 : sameK (svD g) 0 g 0 := same_fk (fun f x y => by rw [svf f x y])
    have q3 : sameK u (svD g 9 0 0 (svD g 8 0 0 1)) (cpE (svD g) (svD g 9 0 0 (svD g 8 0 0 1)) 0 (svD g 1 0 0 2).toNat) (svD g 9 0 0 (svD g 8 0 0 1)) := same_fk (fun f x y => by
      rw [h1 f _ (by omega)]; unfold svG; rw [up_ff (by omega)])
    exact same_tr q3 (same_tr q1 q2)
  have so : ∀ k, k ≠ 0 → k ≠ svD g 9 0 0 (svD g 8 0 0 1) → ∀ f : Nat, 1 ≤ f → f ≤ 7 → u f k = g f k := fun k x z f p q => by
    rw [h1 f k x]; unfold svG; rw [up_ff (by omega), cpE_k _ _ _ z, svf f p q]
  refine ⟨⟨?_, fun k x y => ?_⟩, ?_, ?_⟩
  · refine ⟨by rw [e8]; omega, fun i x y => by rw [e9]; exact hwd.2.1 i x y, fun i j x y z w he => ?_⟩
    rw [e9, e9] at he; exact hwd.2.2 i j x y z w he
  · by_cases k0 : k = 0
    · subst k0; exact hck
    · by_cases kc : k = svD g 9 0 0 (svD g 8 0 0 1)
      · subst kc
        refine ck_mono (by omega) (ck_same sc ?_ (a2 0 (by decide) (by decide)))
        have p := pm_of (wfD _ x y)
        unfold pmK at p ⊢
        rw [h1 5 _ k0]; unfold svG; rw [up_ff (by decide), cpE_5]; exact p
      · exact ck_mono (by omega) (ck_fk (so k k0 kc) (a2 k x y))
  · rw [e8]; omega
  · unfold lst
    rw [e9, e8, show svD g 8 0 0 1 + 1 - 1 = svD g 8 0 0 1 by omega]; exact sc
theorem IC_un {u g : St} {n : Int} (hI : IC u n) (hs : svd u g) : IC (rsG u 0) n ∧ sameK (rsG u 0) 0 g 0 ∧ ∀ f : Nat, 10 ≤ f → rsG u 0 f = u f := by
  obtain ⟨a1, a2⟩ := hI
  obtain ⟨s1, s2⟩ := hs
  have hh := a1.1
  have hc := a1.2.1 (u 8 0 0 1 - 1) (by omega) (by omega)
  have e0 : rsG u 0 = cpE (up u 8 0 0 1 (u 8 0 0 1 - 1)) 0 (lst u) (u 1 (lst u) 0 2).toNat := rfl
  have uf : ∀ f : Nat, f ≠ 8 → up u 8 0 0 1 (u 8 0 0 1 - 1) f = u f := fun f hf => up_ff hf
  have wu : ∀ k, 0 ≤ k → k < 9 → wf (up u 8 0 0 1 (u 8 0 0 1 - 1)) k 1 := fun k x y => wf_ff (fun f p q => uf f (by omega)) (a2 k x y).1
  have hl : 3 ≤ lst u ∧ lst u ≤ 8 := hc
  have q1 : sameK (rsG u 0) 0 (up u 8 0 0 1 (u 8 0 0 1 - 1)) (lst u) := by
    rw [e0]
    exact cp_same (by omega) (wu _ (by omega) (by omega)) (pm_of (wu 0 (by decide) (by decide))) (by rw [uf 1 (by decide)])
  have q2 : sameK (up u 8 0 0 1 (u 8 0 0 1 - 1)) (lst u) u (lst u) := same_fk (fun f x y => by rw [uf f (by omega)])
  have q3 := same_tr q1 q2
  have r8 : ∀ f : Nat, 8 ≤ f → rsG u 0 f = up u 8 0 0 1 (u 8 0 0 1 - 1) f := fun f hf => by rw [e0]; exact cpE_f _ _ _ hf _
  refine ⟨⟨?_, fun k x y => ?_⟩, same_tr q3 s2, fun f hf => by rw [r8 f (by omega), uf f (by omega)]⟩
  · unfold wh
    rw [r8 8 (by decide), r8 9 (by decide), uf 9 (by decide), up_s]
    exact ⟨by omega, a1.2.1, a1.2.2⟩
  · by_cases k0 : k = 0
    · subst k0
      refine ck_same q3 ?_ (a2 (lst u) (by omega) (by omega))
      have p := pm_of (a2 0 (by decide) (by decide)).1
      unfold pmK at p ⊢
      rw [e0, cpE_5, uf 5 (by decide)]; exact p
    · refine ck_fk (fun f p q => ?_) (a2 k x y)
      rw [e0, cpE_k _ _ _ k0, uf f (by omega)]
