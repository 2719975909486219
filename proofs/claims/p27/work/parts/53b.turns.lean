/-! what holds between the law's turns -/
def J (g : St) (N T : Int) : Prop := IC g N ∧ tieS g 0 (em g) ∧ (g 14 0 0 6 = 1 ∨ g 14 0 0 6 = -1) ∧ (∀ i, 0 ≤ i → i < 24 → 0 ≤ g 15 0 0 i ∧ g 15 0 0 i ≤ 40 + 2400 * T) ∧ (0 ≤ g 14 0 0 7 ∧ g 14 0 0 7 ≤ T) ∧ (0 ≤ g 14 0 0 8 ∧ g 14 0 0 8 ≤ 2 * T) ∧ cons g ∧ g 14 0 0 3 ≤ 99 * T
def lwH (g : St) (k a b : Int) : Prop := (k = 0 ∧ (0 ≤ a ∧ a < 4) ∧ (0 ≤ b ∧ b ≤ 9)) ∨ (k = 1 ∧ (0 ≤ a ∧ a < 4) ∧ (-9 ≤ b ∧ b ≤ 9)) ∨ (k = 2 ∧ (0 ≤ a ∧ a ≤ g 14 0 0 0) ∧ (0 ≤ b ∧ b ≤ 89)) ∨ (k = 3 ∧ ((a = 0 ∧ 8 ≤ b ∧ b ≤ 40) ∨ (a = 1 ∧ 1 ≤ b ∧ b ≤ 9) ∨ (a = 2 ∧ 0 ≤ b ∧ b ≤ 5))) ∨ (k = 4 ∧ (1 ≤ a ∧ a ≤ 99))
theorem IC_mono {g : St} {n n2 : Int} (h : n ≤ n2) (hI : IC g n) : IC g n2 := ⟨hI.1, fun k a b => ck_mono h (hI.2 k a b)⟩
theorem IC_cg {g v : St} {n : Int} (h : ∀ f : Nat, f < 14 → v f = g f) (hI : IC g n) : IC v n := by
  refine ⟨?_, fun k a b => ck_fk (fun f x y => by rw [h f (by omega)]) (hI.2 k a b)⟩
  unfold wh; rw [h 8 (by decide), h 9 (by decide)]; exact hI.1
theorem J_mono {g : St} {n n2 T : Int} (h : n ≤ n2) (hJ : J g n T) : J g n2 T := ⟨IC_mono h hJ.1, hJ.2⟩
theorem J_wq {g : St} {N T : Int} (hJ : J g N T) (hT : 0 ≤ T ∧ T ≤ 41) : wq g 1 := by
  obtain ⟨j1, j2, j3, j4, j5, j6, j7, j8⟩ := hJ
  exact ⟨wm_of (IC_wf j1) j2, j3, fun i a b => by have := j4 i a b; omega, by omega, by omega⟩
theorem J_K {g : St} {N T : Int} (hJ : J g N T) (hT : 0 ≤ T ∧ T ≤ 41) (hN : N ≤ 20000) : K g := by
  have hq := J_wq hJ hT
  have t3 := (tieL hJ.2.1).2.1.1
  obtain ⟨j1, j2, j3, j4, j5, j6, j7, j8⟩ := hJ
  have hb := (j1.2 0 (by decide) (by decide)).2.2
  exact ⟨hq, IC_wf j1, fun p q a b c d => by have := hb.1 p q a b c d; omega, j2, j7, j1.1.1, by have := hb.2; omega⟩
theorem J_sv {g : St} {N T : Int} (hJ : J g N T) : tieS (svG g 0) 0 (em g) := tieS_same (same_fk (svG_0 hJ.1.1)) hJ.2.1
theorem J_doH {g : St} {N T k a b : Int} (hJ : J g N T) (hT : 0 ≤ T ∧ T ≤ 40) (hl : lwH g k a b) : doH g k a b := by
  obtain ⟨⟨s0, s1, s2⟩, ⟨r3, -⟩, -⟩ := tieL hJ.2.1
  have j8 := hJ.2.2.2.2.2.2.2
  unfold lwH at hl
  refine ⟨fun h => by omega, fun h => by omega, fun h => by rw [s0]; omega, fun h => ⟨by omega, ?_⟩, fun h => by rw [r3]; omega⟩
  rcases hl with hl | hl | hl | ⟨-, hl | hl | hl⟩ | hl
  · omega
  · omega
  · omega
  · obtain ⟨rfl, h1, h2⟩ := hl; exact ⟨h1, h2⟩
  · obtain ⟨rfl, h1, h2⟩ := hl; exact ⟨h1, h2⟩
  · obtain ⟨rfl, h1, h2⟩ := hl; exact ⟨h1, h2⟩
  · omega
theorem J_duH {g w : St} {N T k a b : Int} (hJ : J g N T) (hT : 0 ≤ T ∧ T ≤ 40) (hl : lwH g k a b) (hw : ∀ f : Nat, 14 ≤ f → f ≤ 17 → w f = g f) : duH w k a b ∧ wq w 1 := by
  have hq := J_wq hJ ⟨hT.1, by omega⟩
  have e14 := hw 14 (by decide) (by decide)
  have e15 := hw 15 (by decide) (by decide)
  have hn6 := n6_room (g := em g) hq.1 (c6_tie hJ.2.1.1 (IC_c6 hJ.1))
  obtain ⟨j1, j2, j3, j4, j5, j6, j7, j8⟩ := hJ
  have eUw : ∀ p, lUw w p = lUw g p := fun p => by rw [← lUw_em, ← lUw_em, em_cg hw]
  have e9 := em_q (g := g) (x := 9) (by decide) (by decide)
  unfold lwH at hl
  refine ⟨⟨fun h => ⟨by omega, by omega, fun h4 => ?_⟩, fun h => by omega, fun h => by rw [e14]; omega, fun h => by omega, fun h => ⟨by omega, by rw [e14]; omega, fun j a b => ?_⟩⟩, ?_⟩
  · rw [eUw] at h4
    have := hn6 a (by omega) (by omega) (by rw [lUw_em]; omega)
    rw [e14]; omega
  · have := j4 j a b
    rw [e15]; omega
  · unfold wq at hq ⊢
    rw [em_cg hw, e14, e15]; exact hq
theorem does_post {g w : St} {N T k a b z : Int} (hJ : J g N T) (hT : 0 ≤ T ∧ T ≤ 40) (hl : lwH g k a b) (hd : doR5 g w k a b z) : (∀ f : Nat, 10 ≤ f → w f = g f) ∧ IC w (N + 60) ∧ ((z = -103 ∧ w = g) ∨ ((-1 ≤ z ∧ z ≤ 200000) ∧ svd w g)) := by
  have hDH := J_doH hJ hT hl
  have ts := J_sv hJ
  have tl := tieL hJ.2.1
  have hq := wq_s (J_wq hJ ⟨hT.1, by omega⟩)
  have c1 := IC_sv hJ.1
  have hI := hJ.1
  have j8 := hJ.2.2.2.2.2.2.2
  have hfin : ∀ (hfr : fr (svG g 0) w) (hck : ck w 0 (N + 60)) (hz : -1 ≤ z ∧ z ≤ 200000), (∀ f : Nat, 10 ≤ f → w f = g f) ∧ IC w (N + 60) ∧ ((z = -103 ∧ w = g) ∨ ((-1 ≤ z ∧ z ≤ 200000) ∧ svd w g)) := fun hfr hck hz => by
    have hc := IC_ch hI hfr hck
    exact ⟨fun f hf => by rw [hfr.2 f (by omega), svG_ff hI.1 (by omega) (by omega) (by omega)], hc.1, Or.inr ⟨hz, hc.2⟩⟩
  have e1 : svG g 0 1 0 = g 1 0 := svG_0 hI.1 1 (by decide) (by decide)
  have e2 : svG g 0 2 0 = g 2 0 := svG_0 hI.1 2 (by decide) (by decide)
  rcases hd with ⟨rfl, hs⟩ | ⟨rfl, rfl, rfl⟩ | ⟨rfl, rfl, rfl⟩ | ⟨rfl, ⟨rfl, rfl, -, -⟩ | ⟨rfl, rfl, hf⟩⟩ | ⟨rfl, hs⟩
  · have d := hDH.1 rfl
    have o := se_ok c1.1 c1.2.1 d.1 d.2 hs
    have hz := se_in c1.1 d.1 hs
    exact hfin (fr_se hs) ⟨o.1, o.2.1, bd_mono (by omega) (bd_se d.1 hs c1.2.2)⟩ (by omega)
  · have d := hDH.2.1 rfl
    have o := mv_ok (p := a) (b := b) c1.1 c1.2.1
    have e := (du_1 (b := b) d.1 ts).2
    refine hfin (fr_mv _ _ _) ⟨o.1, o.2.1, bd_mono (by omega) (bd_mv c1.2.2)⟩ ?_
    rw [e]; unfold lvR; split <;> omega
  · have d := hDH.2.2.1 rfl
    have hw9 := lw_in b (n := 9) (by decide)
    refine hfin (fr_tr (fr_up (by decide)) (fr_tr (fr_up (by decide)) (fr_up (by decide)))) (ck_mono (by omega) (ck_ball (by rw [e2]; exact d.1) (by omega) (by split <;> simp) c1)) ?_
    rw [tl.2.1.2.1]; omega
  · exact ⟨fun f _ => rfl, IC_mono (by omega) hI, Or.inl ⟨rfl, rfl⟩⟩
  · have d := hDH.2.2.2.1 rfl
    refine hfin (fr_up (by decide)) (ck_mono (by omega) (ck_set d.1 d.2 (fun h0 => by rw [fur_fk (svG_0 hI.1)]; exact hf h0) c1)) ?_
    have hx : a = 0 ∨ a = 1 ∨ a = 2 := by omega
    rcases hx with rfl | rfl | rfl
    · rw [tl.1.1]; omega
    · rw [tl.1.2.1]; omega
    · rw [tl.1.2.2]; omega
  · have d := hDH.2.2.2.2 rfl
    have o := trs_ok a.toNat c1.1 c1.2.1 (by rw [e1]; omega) hs
    have e3 : em g 15 0 0 3 = g 14 0 0 3 := em_q (by decide) (by decide)
    have s := trs_S a.toNat c1.1 c1.2.1 (by rw [e3]; omega) ts hs
    have t := tuN_in (wm_of c1.1 ts) a.toNat (by rw [e3]; omega)
    refine hfin (fr_trs _ hs) ⟨o.1, o.2.2.1, bd_mono (by omega) (bd_trs a.toNat c1.1 c1.2.1 (by rw [e1]; omega) hs c1.2.2)⟩ ?_
    rw [s.2]; omega
theorem does_Z {g g2 w w2 : St} {N N2 T k a b z z2 : Int} (hJ : J g N T) (hJ2 : J g2 N2 T) (hT : 0 ≤ T ∧ T ≤ 40) (hl : lwH g k a b) (he : ∀ f : Nat, 14 ≤ f → f ≤ 17 → g2 f = g f) (hd : doR5 g w k a b z) (hd2 : doR5 g2 w2 k a b z2) : z2 = z := by
  have hDH := J_doH hJ hT hl
  have e14 := he 14 (by decide) (by decide)
  have em2 := em_cg he
  have ts := J_sv hJ
  have ts2 := J_sv hJ2
  rw [em2] at ts2
  have tl := tieL hJ.2.1
  have tl2 := tieL hJ2.2.1
  have c1 := IC_sv hJ.1
  have c2 := IC_sv hJ2.1
  have j8 := hJ.2.2.2.2.2.2.2
  have e3 : em g 15 0 0 3 = g 14 0 0 3 := em_q (by decide) (by decide)
  rcases hd with ⟨rfl, hs⟩ | ⟨rfl, rfl, rfl⟩ | ⟨rfl, rfl, rfl⟩ | ⟨rfl, hs⟩ | ⟨rfl, hs⟩
  · have d := hDH.1 rfl
    rcases hd2 with ⟨-, hs2⟩ | ⟨h, -⟩ | ⟨h, -⟩ | ⟨h, -⟩ | ⟨h, -⟩
    · rw [(se_S c1.1 c1.2.1 d.1 d.2 ts hs).2, (se_S c2.1 c2.2.1 d.1 d.2 ts2 hs2).2]
    all_goals exact absurd h (by decide)
  · have d := hDH.2.1 rfl
    rcases hd2 with ⟨h, -⟩ | ⟨-, rfl, -⟩ | ⟨h, -⟩ | ⟨h, -⟩ | ⟨h, -⟩
    · exact absurd h (by decide)
    · rw [(mv_S (b := b) d.1 ts).2, (mv_S (b := b) d.1 ts2).2]
    all_goals exact absurd h (by decide)
  · rcases hd2 with ⟨h, -⟩ | ⟨h, -⟩ | ⟨-, rfl, -⟩ | ⟨h, -⟩ | ⟨h, -⟩
    · exact absurd h (by decide)
    · exact absurd h (by decide)
    · rw [tl.2.1.2.1, tl2.2.1.2.1, e14]
    all_goals exact absurd h (by decide)
  · have d := hDH.2.2.2.1 rfl
    have hfu : fur g2 0 ≤ b ↔ fur g 0 ≤ b := by
      rw [← lrm_fur hJ2.2.1, ← lrm_fur hJ.2.1]
      unfold lrN
      rw [e14, he 15 (by decide) (by decide), he 17 (by decide) (by decide)]
    have hval : g2 2 0 0 a = g 2 0 0 a := by
      have hx : a = 0 ∨ a = 1 ∨ a = 2 := by omega
      rcases hx with rfl | rfl | rfl
      · rw [tl.1.1, tl2.1.1, e14]
      · rw [tl.1.2.1, tl2.1.2.1, e14]
      · rw [tl.1.2.2, tl2.1.2.2, e14]
    rcases hd2 with ⟨h, -⟩ | ⟨h, -⟩ | ⟨h, -⟩ | ⟨-, hs2⟩ | ⟨h, -⟩
    · exact absurd h (by decide)
    · exact absurd h (by decide)
    · exact absurd h (by decide)
    · rcases hs with ⟨rfl, -, h3, h4⟩ | ⟨rfl, -, h4⟩ <;> rcases hs2 with ⟨rfl, -, k3, k4⟩ | ⟨rfl, -, k4⟩
      · rfl
      · have := hfu.mp (k4 h3); omega
      · have := hfu.mpr (h4 k3); omega
      · exact hval
    · exact absurd h (by decide)
  · have d := hDH.2.2.2.2 rfl
    have e1 : svG g 0 1 0 = g 1 0 := svG_0 hJ.1.1 1 (by decide) (by decide)
    rcases hd2 with ⟨h, -⟩ | ⟨h, -⟩ | ⟨h, -⟩ | ⟨h, -⟩ | ⟨-, hs2⟩
    · exact absurd h (by decide)
    · exact absurd h (by decide)
    · exact absurd h (by decide)
    · exact absurd h (by decide)
    · rw [(trs_S a.toNat c1.1 c1.2.1 (by rw [e3]; omega) ts hs).2, (trs_S a.toNat c2.1 c2.2.1 (by rw [e3]; omega) ts2 hs2).2]
/-- undone -/
theorem J_un {g w : St} {N T k a b z : Int} (hJ : J g N T) (hT : 0 ≤ T ∧ T ≤ 40) (hl : lwH g k a b) (hd : doR5 g w k a b z) (hz : z ≠ -103) : J (rsG w 0) (N + 60) T ∧ (∀ f : Nat, 10 ≤ f → rsG w 0 f = g f) ∧ 0 < w 8 0 0 1 := by
  obtain ⟨p1, p2, p3⟩ := does_post hJ hT hl hd
  obtain ⟨j1, j2, j3, j4, j5, j6, j7, j8⟩ := hJ
  rcases p3 with ⟨h, -⟩ | ⟨-, hs⟩
  · exact absurd h hz
  · obtain ⟨u1, u2, u3⟩ := IC_un p2 hs
    have ef : ∀ f : Nat, 10 ≤ f → rsG w 0 f = g f := fun f hf => (u3 f hf).trans (p1 f hf)
    have e14 := ef 14 (by decide)
    have e15 := ef 15 (by decide)
    refine ⟨⟨u1, ?_, by rw [e14]; exact j3, by rw [e15]; exact j4, by rw [e14]; exact j5, by rw [e14]; exact j6, ?_, by rw [e14]; exact j8⟩, ef, hs.1⟩
    · rw [em_cg (fun f a b => ef f (by omega))]; exact tieS_same u2 j2
    · unfold cons plF at j7 ⊢; rw [e14, e15]; exact j7
theorem s345_cg {F G : Int → Int → Int} (h : ∀ p x, 0 ≤ p → p < 4 → 3 ≤ x → x < 6 → F p x = G p x) : s345 F = s345 G := by
  unfold s345
  rw [h 0 3 (by decide) (by decide) (by decide) (by decide), h 1 3 (by decide) (by decide) (by decide) (by decide), h 2 3 (by decide) (by decide) (by decide) (by decide), h 3 3 (by decide) (by decide) (by decide) (by decide), h 0 4 (by decide) (by decide) (by decide) (by decide), h 1 4 (by decide) (by decide) (by decide) (by decide), h 2 4 (by decide) (by decide) (by decide) (by decide), h 3 4 (by decide) (by decide) (by decide) (by decide), h 0 5 (by decide) (by decide) (by decide) (by decide), h 1 5 (by decide) (by decide) (by decide) (by decide), h 2 5 (by decide) (by decide) (by decide) (by decide), h 3 5 (by decide) (by decide) (by decide) (by decide)]
/-- a turn of the law's loop -/
theorem J_step {g w v : St} {N T k a b z y : Int} (hJ : J g N T) (hT : 0 ≤ T ∧ T ≤ 40) (hl : lwH g k a b) (hd : doR5 g w k a b z) (hu : duR5 w v k a b y) : y = z ∧ J v (N + 60) (T + 1) := by
  have hDH := J_doH hJ hT hl
  obtain ⟨p1, p2, p3⟩ := does_post hJ hT hl hd
  have hw : ∀ f : Nat, 14 ≤ f → f ≤ 17 → w f = g f := fun f a b => p1 f (by omega)
  have e14 := hw 14 (by decide) (by decide)
  have e15 := hw 15 (by decide) (by decide)
  have hqw := (J_duH hJ hT hl hw).2
  have qs := wq_s hqw
  have emw := em_cg hw
  have ts := J_sv hJ
  rw [← emw] at ts
  have hR := hJ.2.1
  have c1 := IC_sv hJ.1
  obtain ⟨j1, j2, j3, j4, j5, j6, j7, j8⟩ := hJ
  rw [← e14] at j3 j5 j6 j8
  rw [← e15] at j4
  have j7w : cons w := by unfold cons plF at j7 ⊢; rw [e14, e15]; exact j7
  -- what is to be shown, of a state whose class is that of w
  have fin : (∀ f : Nat, f < 14 → v f = w f) → tieS w 0 (em v) → (v 14 0 0 6 = 1 ∨ v 14 0 0 6 = -1) → (∀ i, 0 ≤ i → i < 24 → 0 ≤ v 15 0 0 i ∧ v 15 0 0 i ≤ 40 + 2400 * (T + 1)) → (0 ≤ v 14 0 0 7 ∧ v 14 0 0 7 ≤ T + 1) → (0 ≤ v 14 0 0 8 ∧ v 14 0 0 8 ≤ 2 * (T + 1)) → cons v → v 14 0 0 3 ≤ 99 * (T + 1) → J v (N + 60) (T + 1) := fun h1 h2 h3 h4 h5 h6 h7 h8 =>
    ⟨IC_cg h1 p2, tieS_same (same_fk (fun f a b => by rw [h1 f (by omega)])) h2, h3, h4, h5, h6, h7, h8⟩
  have hbig : ∀ i, 0 ≤ i → i < 24 → 0 ≤ w 15 0 0 i ∧ w 15 0 0 i ≤ 40 + 2400 * (T + 1) := fun i a b => by have := j4 i a b; omega
  rcases hu with ⟨rfl, rfl, rfl⟩ | ⟨rfl, rfl, rfl⟩ | ⟨rfl, rfl, rfl⟩ | ⟨rfl, hu⟩ | ⟨rfl, hu⟩
  · have d := hDH.1 rfl
    rcases hd with ⟨-, hs⟩ | ⟨h, -⟩ | ⟨h, -⟩ | ⟨h, -⟩ | ⟨h, -⟩
    · have q := du_0 c1.1 c1.2.1 d.1 d.2 ts hs
      refine ⟨q.2.symm, ?_⟩
      unfold lcG at *
      by_cases h4 : 4 < lUw w a
      · rw [if_pos h4] at *
        refine fin (fun f hf => up_ff (by omega)) q.1 (by rw [up_i (by decide)]; exact j3) (fun i a b => by rw [up_f (by decide)]; exact hbig i a b) (by rw [up_s]; omega) (by rw [up_i (by decide)]; omega) ?_ (by rw [up_i (by decide)]; omega)
        unfold cons plF at j7w ⊢
        rw [up_i (by decide), up_i (by decide), up_ff (by decide)]; exact j7w
      · rw [if_neg h4] at *
        refine fin (fun f hf => lcA_f _ _ _ (by omega) (by omega) (by omega) (by omega)) q.1 (by rw [lcA_x (by decide) (by decide)]; exact j3) (fun i a0 b0 => ?_) (by rw [lcA_x (by decide) (by decide)]; omega) (by rw [lcA_8]; omega) ?_ (by rw [lcA_x (by decide) (by decide)]; omega)
        · rw [lcA_15]
          have h1 := j4 i a0 b0
          have h2 := j4 (6 * a + 2) (by omega) (by omega)
          split <;> omega
        · unfold cons at j7w ⊢
          rw [lcA_8, lcA_9, s345_cg (F := plF (lcA w a b)) (G := plF w) (fun p x _ _ x3 x6 => by unfold plF; rw [lcA_15, if_neg (by omega)])]
          omega
    all_goals exact absurd h (by decide)
  · have d := hDH.2.1 rfl
    rcases hd with ⟨h, -⟩ | ⟨-, rfl, hwe⟩ | ⟨h, -⟩ | ⟨h, -⟩ | ⟨h, -⟩
    · exact absurd h (by decide)
    · have q := du_1 (b := b) d.1 ts
      rw [← hwe] at q
      refine ⟨q.2.symm, ?_⟩
      by_cases h4 : 0 ≤ w 15 0 0 (6 * a) + b ∧ w 15 0 0 (6 * a) + b ≤ w 14 0 0 0
      · have hv : lvG w a b = up w 15 0 0 (6 * a) (w 15 0 0 (6 * a) + b) := if_pos h4
        rw [hv] at q fin ⊢
        refine fin (fun f hf => up_ff (by omega)) q.1 (by rw [up_f (by decide)]; exact j3) (fun i a0 b0 => ?_) (by rw [up_f (by decide)]; omega) (by rw [up_f (by decide)]; omega) ?_ (by rw [up_f (by decide)]; omega)
        · have h1 := hbig i a0 b0
          by_cases hi : i = 6 * a
          · subst hi; rw [up_s]; omega
          · rw [up_i hi]; exact h1
        · unfold cons at j7w ⊢
          rw [up_f (by decide), up_f (by decide), s345_cg (G := plF w) (fun p x _ _ x3 x6 => by unfold plF; rw [up_i (by omega)])]
          exact j7w
      · have hv : lvG w a b = up w 14 0 0 7 (w 14 0 0 7 + 1) := if_neg h4
        rw [hv] at q fin ⊢
        refine fin (fun f hf => up_ff (by omega)) q.1 (by rw [up_i (by decide)]; exact j3) (fun i a b => by rw [up_f (by decide)]; exact hbig i a b) (by rw [up_s]; omega) (by rw [up_i (by decide)]; omega) ?_ (by rw [up_i (by decide)]; omega)
        unfold cons plF at j7w ⊢
        rw [up_i (by decide), up_i (by decide), up_ff (by decide)]; exact j7w
    all_goals exact absurd h (by decide)
  · have d := hDH.2.2.1 rfl
    have hw9 := lw_in b (n := 9) (by decide)
    rcases hd with ⟨h, -⟩ | ⟨h, -⟩ | ⟨-, rfl, hwe⟩ | ⟨h, -⟩ | ⟨h, -⟩
    · exact absurd h (by decide)
    · exact absurd h (by decide)
    · have q := du_2 (a := a) (s := 1 + lw b 9) (r := if lw b 2 = 0 then 1 else 0) (q := if lw b 2 = 0 then 1 else -1) ts (by split <;> decide)
      rw [← hwe] at q
      refine ⟨by rw [(tieL hR).2.1.2.1, e14], ?_⟩
      have x := fun {x : Int} (h4 : x ≠ 4) (h5 : x ≠ 5) (h6 : x ≠ 6) => show up (up (up w 14 0 0 4 a) 14 0 0 5 (1 + lw b 9)) 14 0 0 6 (if lw b 2 = 0 then 1 else -1) 14 0 0 x = w 14 0 0 x by rw [up_i h6, up_i h5, up_i h4]
      have xf := fun {f : Nat} (hf : f ≠ 14) => show up (up (up w 14 0 0 4 a) 14 0 0 5 (1 + lw b 9)) 14 0 0 6 (if lw b 2 = 0 then 1 else -1) f = w f by rw [up_ff hf, up_ff hf, up_ff hf]
      refine fin (fun f hf => xf (by omega)) q (by rw [up_s]; split <;> simp) (fun i a0 b0 => by rw [xf (by decide)]; exact hbig i a0 b0) (by rw [x (by decide) (by decide) (by decide)]; omega) (by rw [x (by decide) (by decide) (by decide)]; omega) ?_ (by rw [x (by decide) (by decide) (by decide)]; omega)
      unfold cons plF at j7w ⊢
      rw [x (by decide) (by decide) (by decide), x (by decide) (by decide) (by decide), xf (by decide)]; exact j7w
    all_goals exact absurd h (by decide)
  · have d := hDH.2.2.2.1 rfl
    rcases hd with ⟨h, -⟩ | ⟨h, -⟩ | ⟨h, -⟩ | ⟨-, hs⟩ | ⟨h, -⟩
    · exact absurd h (by decide)
    · exact absurd h (by decide)
    · exact absurd h (by decide)
    · have hfu : lrN w ≤ b ↔ fur g 0 ≤ b := by
        have e := lrm_fur (a := b) hR
        rw [← e]
        unfold lrN
        rw [e14, e15, hw 17 (by decide) (by decide)]
      have hval : w 14 0 0 a = g 2 0 0 a := by
        have hx : a = 0 ∨ a = 1 ∨ a = 2 := by omega
        have tl := tieL hR
        rcases hx with rfl | rfl | rfl
        · rw [tl.1.1, e14]
        · rw [tl.1.2.1, e14]
        · rw [tl.1.2.2, e14]
      rcases hs with ⟨rfl, hwe, h3, h4⟩ | ⟨rfl, hwe, h4⟩ <;> rcases hu with ⟨rfl, rfl, k3, k4⟩ | ⟨rfl, rfl, k4⟩
      · refine ⟨rfl, fin (fun f _ => rfl) ?_ j3 hbig (by omega) (by omega) j7w (by omega)⟩
        rw [emw, hwe]; exact hR
      · have := hfu.mp (k4 h3); omega
      · have := hfu.mpr (h4 k3); omega
      · have q := du_3 (b := b) d.1 ts
        rw [← hwe] at q
        refine ⟨hval, fin (fun f hf => up_ff (by omega)) q (by rw [up_i (by omega)]; exact j3) (fun i a0 b0 => by rw [up_f (by decide)]; exact hbig i a0 b0) (by rw [up_i (by omega)]; omega) (by rw [up_i (by omega)]; omega) ?_ (by rw [up_i (by omega)]; omega)⟩
        unfold cons plF at j7w ⊢
        rw [up_i (by omega), up_i (by omega), up_ff (by decide)]; exact j7w
    · exact absurd h (by decide)
  · have d := hDH.2.2.2.2 rfl
    rcases hd with ⟨h, -⟩ | ⟨h, -⟩ | ⟨h, -⟩ | ⟨h, -⟩ | ⟨-, hs⟩
    · exact absurd h (by decide)
    · exact absurd h (by decide)
    · exact absurd h (by decide)
    · exact absurd h (by decide)
    · obtain ⟨u1, u2, u3, u4, u5, u6⟩ := hu
      have hb : ∀ j, 0 ≤ j → j < 24 → w 15 0 0 j + 24 * (a.toNat : Int) ≤ 200000 := fun j x y => by have := j4 j x y; omega
      have la := lts_all a.toNat u1 hqw (by omega) hb j7w
      have q := tss_tie a.toNat c1.1 c1.2.1 hqw (by omega) hb j7w ts hs u1
      refine ⟨q.2.symm, fin (fun f hf => u5 f (Or.inl hf)) q.1 u2.2.1 (fun i x y => ?_) ?_ ?_ la.2.2.2.1 (by omega)⟩
      · have h1 := u4 i x y
        have h2 := (u2.2.2.1 i x y).1
        have h3 := j4 i x y
        omega
      · rw [la.2.2.2.2.1]; omega
      · rw [la.2.2.2.2.2.1]; omega
/-- what is told is the law's rows alone -/
theorem tdC_cg {g g2 : St} (h : ∀ w : Int, 0 ≤ w → w < 11 → ctN g2 w = ctN g w) : ∀ (n : Nat) (v : Int), n ≤ 11 → tdC g2 n v = tdC g n v
  | 0, _, _ => rfl
  | n + 1, v, hn => by rw [tdC, tdC, tdC_cg h n v (by omega), h n (by omega) (by omega)]
theorem tdQ_cg {g g2 : St} {p : Int} (h : ∀ w : Int, 0 ≤ w → w < 7 → plN g2 0 p w = plN g 0 p w) : ∀ (n : Nat) (v : Int), n ≤ 7 → tdQ g2 p n v = tdQ g p n v
  | 0, _, _ => rfl
  | n + 1, v, hn => by rw [tdQ, tdQ, tdQ_cg h n v (by omega), h n (by omega) (by omega)]
theorem tdP_cg {g g2 : St} (h : ∀ p w : Int, 0 ≤ p → p < 4 → 0 ≤ w → w < 7 → plN g2 0 p w = plN g 0 p w) : ∀ (n : Nat) (v : Int), n ≤ 4 → tdP g2 n v = tdP g n v
  | 0, _, _ => rfl
  | n + 1, v, hn => by rw [tdP, tdP, tdP_cg h n v (by omega), tdQ_cg (fun w a b => h n w (by omega) (by omega) a b) 7 _ (by omega)]
theorem tdF_cg {g g2 : St} {r : Int} (h : ∀ w : Int, 0 ≤ w → w < 6 → ecN g2 0 r w = ecN g 0 r w) : ∀ (n : Nat) (v : Int), n ≤ 6 → tdF g2 r n v = tdF g r n v
  | 0, _, _ => rfl
  | n + 1, v, hn => by rw [tdF, tdF, tdF_cg h n v (by omega), h n (by omega) (by omega)]
theorem tdE_cg {g g2 : St} (h : ∀ r w : Int, 0 ≤ r → 0 ≤ w → w < 6 → ecN g2 0 r w = ecN g 0 r w) : ∀ (n : Nat) (v : Int), tdE g2 n v = tdE g n v
  | 0, _ => rfl
  | n + 1, v => by rw [tdE, tdE, tdE_cg h n v, tdF_cg (fun w a b => h n w (by omega) a b) 6 _ (by omega)]
theorem td_eq {g g2 : St} (hK : K g) (hK2 : K g2) (he : ∀ f : Nat, 14 ≤ f → f ≤ 17 → g2 f = g f) : tdN g2 = tdN g := by
  have e14 := he 14 (by decide) (by decide)
  have e15 := he 15 (by decide) (by decide)
  have em2 := em_cg he
  have c4 : ∀ {u : St}, K u → ctN u 4 = u 14 0 0 9 := fun {u} hu => by
    have hn := tieS_n hu.2.1 hu.2.2.2.1
    rw [em_q (by decide) (by decide)] at hn
    exact hn
  have hc : ∀ w : Int, 0 ≤ w → w < 11 → ctN g2 w = ctN g w := fun w a b => by
    obtain ⟨a0, a1, a2, a3, a5, a6, a7, a8, a9, a10⟩ := k_ct hK
    obtain ⟨b0, b1, b2, b3, b5, b6, b7, b8, b9, b10⟩ := k_ct hK2
    rw [e14] at b0 b1 b2 b3 b5 b10
    rw [e15] at b6 b7 b8 b9
    have a4 := c4 hK
    have b4 := c4 hK2
    rw [e14] at b4
    have hx : w = 0 ∨ w = 1 ∨ w = 2 ∨ w = 3 ∨ w = 4 ∨ w = 5 ∨ w = 6 ∨ w = 7 ∨ w = 8 ∨ w = 9 ∨ w = 10 := by omega
    rcases hx with rfl | rfl | rfl | rfl | rfl | rfl | rfl | rfl | rfl | rfl | rfl
    · exact b0.trans a0.symm
    · exact b1.trans a1.symm
    · exact b2.trans a2.symm
    · exact b3.trans a3.symm
    · exact b4.trans a4.symm
    · exact b5.trans a5.symm
    · exact b6.trans a6.symm
    · exact b7.trans a7.symm
    · exact b8.trans a8.symm
    · exact b9.trans a9.symm
    · exact b10.trans a10.symm
  have hp : ∀ p w : Int, 0 ≤ p → p < 4 → 0 ≤ w → w < 7 → plN g2 0 p w = plN g 0 p w := fun p w p0 p4 a b => by
    rw [pl_tie hK.2.2.2.1.1 ⟨p0, p4⟩ ⟨a, by omega⟩, pl_tie hK2.2.2.2.1.1 ⟨p0, p4⟩ ⟨a, by omega⟩, em2]
  have hr : ∀ r w : Int, 0 ≤ r → 0 ≤ w → w < 6 → ecN g2 0 r w = ecN g 0 r w := fun r w r0 a b => by
    rw [et_S hK.2.1 hK.2.2.2.1 r0 ⟨a, by omega⟩, et_S hK2.2.1 hK2.2.2.2.1 r0 ⟨a, by omega⟩, em2]
  have ht : eT g2 0 (g2 6 0 0 0) 1 = eT g 0 (g 6 0 0 0) 1 := by
    rw [eT_tie hK.2.2.2.1.1 (p := 0) (by decide), eT_tie hK2.2.2.2.1.1 (p := 0) (by decide), em2]
  unfold tdN
  rw [ht, hc 4 (by decide) (by decide), tdC_cg hc 11 43 (by decide), tdP_cg hp 4 _ (by decide), tdE_cg hr]
