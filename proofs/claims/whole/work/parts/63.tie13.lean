/-! each call, in both: the undoable ones -/
theorem svA_x (g : St) {x : Int} (h : x ≠ 3) : svA g 14 0 0 x = g 14 0 0 x := by
  unfold svA; split
  · rw [up_i h]; simp only [shM]; rw [if_neg (by omega)]
  · rfl
theorem svM_x (g : St) {x : Int} (h : x ≠ 3) : svM g 14 0 0 x = g 14 0 0 x := by
  unfold svM; rw [up_i h]; simp only [cpM]; rw [if_neg (by omega), svA_x _ h]
theorem t0_x {g : St} {x : Int} (h : x ≠ 0) : t0 g 14 0 0 x = g 14 0 0 x := up_i h
theorem t0_0 {g : St} : t0 g 14 0 0 0 = 0 := up_s
theorem undo_G {g u0 u v : St} {n : Int} (hI : INV g n) (hfr : fr (svG g 0) u0) (hu : ∀ f : Nat, f ≤ 19 → f ≠ 12 → u f = u0 f) (hv3 : v 14 0 0 3 = svM (t0 u) 14 0 0 3) (hvf : ∀ f : Nat, f ≠ 14 → f ≠ 15 → v f = svM (t0 u) f) (hck : ck u0 0 (n + 60)) (hT : tieS u0 0 v) (ht : wt v) (hb : wb v) (hx : txT v) : INV v (n + 60) := by
  have hh := hI.1
  have uf : ∀ f : Nat, 8 ≤ f → f ≤ 19 → f ≠ 12 → u f = svG g 0 f := fun f a b c => (hu f b c).trans (hfr.2 f a)
  have ug : ∀ f : Nat, 14 ≤ f → f ≤ 19 → u f = g f := fun f a b => (uf f (by omega) b (by omega)).trans (svG_ff hh (by omega) (by omega) (by omega))
  have vf : ∀ f : Nat, f ≠ 14 → f ≠ 15 → f ≠ 16 → v f = u f := fun f a b c => (hvf f a b).trans ((svM_f _ a c).trans (t0_f a))
  have sv := svM_t0 (ug 14 (by decide) (by decide)) (ug 15 (by decide) (by decide)) (ug 16 (by decide) (by decide))
  have v0 : ∀ f : Nat, 1 ≤ f → f ≤ 7 → ∀ k, v f k = u0 f k := fun f a b k => by rw [vf f (by omega) (by omega) (by omega), hu f (by omega) (by omega)]
  refine undo_S hI (fun f k a b c d => ?_) (fun f a b => ?_) ?_ ?_ ?_ ?_ (ck_fk (fun f a b => v0 f a b 0) hck) (tieS_same (same_fk (fun f a b => v0 f a b 0)) hT) ht hb hx
  · rw [v0 f a b k]; exact hfr.1 f k c
  · rw [vf f (by omega) (by omega) (by omega), uf f (by omega) (by omega) (by omega)]
  · rw [hv3]; exact sv.1
  · rw [hvf 16 (by decide) (by decide)]; exact sv.2
  · rw [vf 17 (by decide) (by decide) (by decide)]; exact ug 17 (by decide) (by decide)
  · rw [vf 18 (by decide) (by decide) (by decide)]; exact ug 18 (by decide) (by decide)
theorem undo_F {g u0 u v : St} {n : Int} (hI : INV g n) (hfr : fr (svG g 0) u0) (hu : ∀ f : Nat, f ≤ 19 → u f = u0 f) (hv : f14 (svM (t0 u)) v) (hck : ck u0 0 (n + 60)) (hT : tieS u0 0 v) : INV v (n + 60) ∧ v 14 0 0 0 = 0 ∧ v 20 = u 20 := by
  have hh := hI.1
  have uf : ∀ f : Nat, 8 ≤ f → f ≤ 19 → u f = svG g 0 f := fun f a b => (hu f b).trans (hfr.2 f a)
  have ug : ∀ f : Nat, 10 ≤ f → f ≤ 19 → u f = g f := fun f a b => (uf f (by omega) b).trans (svG_ff hh (by omega) (by omega) (by omega))
  have vf : ∀ f : Nat, f ≠ 14 → f ≠ 15 → f ≠ 16 → v f = u f := fun f a b c => (hv.2 f a b).trans ((svM_f _ a c).trans (t0_f a))
  have vx : ∀ x, x ≠ 0 → x ≠ 3 → x ≠ 12 → x ≠ 13 → v 14 0 0 x = g 14 0 0 x := fun x a b c d => by
    rw [hv.1 x c d, svM_x _ b, t0_x a, ug 14 (by decide) (by decide)]
  have v12 : v 12 = g 12 := (vf 12 (by decide) (by decide) (by decide)).trans (ug 12 (by decide) (by decide))
  have v13 : v 13 = g 13 := (vf 13 (by decide) (by decide) (by decide)).trans (ug 13 (by decide) (by decide))
  have v19 : v 19 = g 19 := (vf 19 (by decide) (by decide) (by decide)).trans (ug 19 (by decide) (by decide))
  refine ⟨undo_G hI hfr (fun f a _ => hu f a) (hv.1 3 (by decide) (by decide)) hv.2 hck hT ?_ ?_ ?_, ?_, vf 20 (by decide) (by decide) (by decide)⟩
  · unfold wt; rw [v12, v13]; exact hI.2.2.1
  · have := hI.2.2.2.1
    unfold wb at this ⊢
    rw [vx 7 (by decide) (by decide) (by decide) (by decide), vx 8 (by decide) (by decide) (by decide) (by decide), v19]; exact this
  · have := hI.2.2.2.2.2.2.2
    unfold txT at this ⊢
    rw [vx 7 (by decide) (by decide) (by decide) (by decide), v12, v13, v19]; exact this
  · rw [hv.1 0 (by decide) (by decide), svM_x _ (by decide), t0_0]
/-- the class's state behind a save: canyon 0 is as it was -/
theorem sv_ck {g : St} {n : Int} (hI : INV g n) : ck (svG g 0) 0 n := ck_fk (svG_0 hI.1) (hI.2.1 0 (by decide) (by decide))
theorem sv_tS {g u : St} {n : Int} (hI : INV g n) (h15 : u 15 = g 15) : tieS (svG g 0) 0 (svM (t0 u)) :=
  tieS_m (by rw [sv_15, h15]) (tieS_same (same_fk (svG_0 hI.1)) hI.2.2.2.2.1)
theorem u_15 {g u0 u : St} {n : Int} (hI : INV g n) (hfr : fr (svG g 0) u0) (hu : ∀ f : Nat, f ≤ 19 → f ≠ 12 → u f = u0 f) : u 15 = g 15 :=
  (hu 15 (by decide) (by decide)).trans ((hfr.2 15 (by decide)).trans (svG_ff hI.1 (by decide) (by decide) (by decide)))
theorem op_call {g u0 u v : St} {n p w z b : Int} (hI : INV g n) (hp : 0 ≤ p ∧ p < 4) (hw : 0 ≤ w ∧ w ≤ 9) (hs : se (svG g 0) u0 0 p w z) (hu : ∀ f : Nat, f ≤ 19 → u f = u0 f) (hv : v = dcM (svM (t0 u)) p w) (hb : b = dcR (svM (t0 u)) p) : (INV v (n + 60) ∧ v 14 0 0 0 = 0 ∧ v 20 = u 20) ∧ z = b := by
  have c1 := sv_ck hI
  have hfr := fr_se hs
  have t1 := sv_tS hI (u_15 hI hfr (fun f a _ => hu f a))
  have s := se_S c1.1 c1.2.1 hp hw t1 hs
  have o := se_ok c1.1 c1.2.1 hp hw hs
  rw [hv, hb]
  exact ⟨undo_F hI hfr hu (f14_dc _ p w) ⟨o.1, o.2.1, bd_mono (by omega) (bd_se hp hs c1.2.2)⟩ s.1, s.2⟩
theorem op_walk {g u v : St} {n p b z : Int} (hI : INV g n) (hp : 0 ≤ p ∧ p < 4) (hu : ∀ f : Nat, f ≤ 19 → u f = mvG (svG g 0) 0 p b f) (hv : v = mvGM (svM (t0 u)) p b) (hz : z = mvRM (svM (t0 u)) p b) : (INV v (n + 60) ∧ v 14 0 0 0 = 0 ∧ v 20 = u 20) ∧ mvR (svG g 0) 0 p b = z := by
  have c1 := sv_ck hI
  have hfr := fr_mv (svG g 0) p b
  have t1 := sv_tS hI (u_15 hI hfr (fun f a _ => hu f a))
  have s := mv_S (b := b) hp t1
  have o := mv_ok (p := p) (b := b) c1.1 c1.2.1
  rw [hv, hz]
  exact ⟨undo_F hI hfr hu (f14_mv _ p b) ⟨o.1, o.2.1, bd_mono (by omega) (bd_mv c1.2.2)⟩ s.1, s.2⟩
theorem op_pass {g u0 u v : St} {n t z b : Int} (hI : INV g n) (ht : 1 ≤ t ∧ t ≤ 99) (hc : g 1 0 0 0 + t ≤ 99999) (hs : trs 0 t.toNat (svG g 0) u0 z) (hu : ∀ f : Nat, f ≤ 19 → u f = u0 f) (hv : v = (tuN (svM (t0 u)) t.toNat).1) (hb : b = (tuN (svM (t0 u)) t.toNat).2) : (INV v (n + 60) ∧ v 14 0 0 0 = 0 ∧ v 20 = u 20) ∧ z = b := by
  have c1 := sv_ck hI
  have hfr := fr_trs _ hs
  have t1 := sv_tS hI (u_15 hI hfr (fun f a _ => hu f a))
  have e1 : svG g 0 1 0 = g 1 0 := svG_0 hI.1 1 (by decide) (by decide)
  have e3 : svG g 0 1 0 0 0 = svM (t0 u) 15 0 0 3 := t1.1.2.1.1
  rw [e1] at e3
  have s := trs_S t.toNat c1.1 c1.2.1 (by omega) t1 hs
  have o := trs_ok t.toNat c1.1 c1.2.1 (by rw [e1]; omega) hs
  rw [hv, hb]
  exact ⟨undo_F hI hfr hu (f14_tn (wm_of c1.1 t1) t.toNat (by omega)) ⟨o.1, o.2.2.1, bd_mono (by omega) (bd_trs t.toNat c1.1 c1.2.1 (by rw [e1]; omega) hs c1.2.2)⟩ s.1, s.2⟩
theorem ck_ball {g : St} {n a b q : Int} (ha : 0 ≤ a ∧ a ≤ g 2 0 0 0) (hb : 1 ≤ b ∧ b ≤ 9) (hq : q = 0 ∨ q = 1) (hc : ck g 0 n) : ck (up (up (up g 3 0 0 0 a) 3 0 0 1 b) 3 0 0 2 q) 0 n := by
  have ef : ∀ f : Nat, f ≠ 3 → up (up (up g 3 0 0 0 a) 3 0 0 1 b) 3 0 0 2 q f = g f := fun f h => by rw [up_ff h, up_ff h, up_ff h]
  have e0 : up (up (up g 3 0 0 0 a) 3 0 0 1 b) 3 0 0 2 q 3 0 0 0 = a := by rw [up_i (by decide), up_i (by decide), up_s]
  have e1 : up (up (up g 3 0 0 0 a) 3 0 0 1 b) 3 0 0 2 q 3 0 0 1 = b := by rw [up_i (by decide), up_s]
  have e2 : up (up (up g 3 0 0 0 a) 3 0 0 1 b) 3 0 0 2 q 3 0 0 2 = q := by rw [up_s]
  obtain ⟨⟨hS0, hS1, hS2, hB0, hB1, hB2, hCl, hN, hPl, hPm, hPj, hEc, hSo⟩, h6, hbd⟩ := hc
  refine ⟨?_, fun p x y => ?_, ?_⟩
  · unfold wf okE
    rw [e0, e1, e2, ef 1 (by decide), ef 2 (by decide), ef 5 (by decide), ef 6 (by decide), ef 7 (by decide)]
    exact ⟨hS0, hS1, hS2, ha, hb, hq, hCl, hN, hPl, hPm, hPj, hEc, hSo⟩
  · rw [eOf_els, els_x (by rw [ef 1 (by decide)]) (ef 5 (by decide)) (ef 7 (by decide)), ← eOf_els]; exact h6 p x y
  · unfold bd; rw [ef 6 (by decide), ef 1 (by decide)]; exact hbd
theorem f14_15 {g u : St} (h : ∀ f : Nat, f ≠ 15 → u f = g f) : f14 g u := f14_of h
theorem op_throw {g u v : St} {n a b q : Int} (hI : INV g n) (ha : 0 ≤ a ∧ a ≤ g 2 0 0 0) (hb : 1 ≤ b ∧ b ≤ 9) (hq : q = 0 ∨ q = 1) (hu : ∀ f : Nat, f ≤ 19 → u f = up (up (up (svG g 0) 3 0 0 0 a) 3 0 0 1 b) 3 0 0 2 q f) (hv : v = up (up (up (svM (t0 u)) 15 0 0 4 a) 15 0 0 5 b) 15 0 0 6 q) : (INV v (n + 60) ∧ v 14 0 0 0 = 0 ∧ v 20 = u 20) ∧ g 3 0 0 0 = u 15 0 0 4 := by
  have c1 := sv_ck hI
  have hfr : fr (svG g 0) (up (up (up (svG g 0) 3 0 0 0 a) 3 0 0 1 b) 3 0 0 2 q) := fr_tr (fr_up (by decide)) (fr_tr (fr_up (by decide)) (fr_up (by decide)))
  have h15 := u_15 hI hfr (fun f a _ => hu f a)
  have t1 := sv_tS hI h15
  have e2 : svG g 0 2 0 = g 2 0 := svG_0 hI.1 2 (by decide) (by decide)
  have ef : ∀ f : Nat, f ≠ 3 → up (up (up (svG g 0) 3 0 0 0 a) 3 0 0 1 b) 3 0 0 2 q f = svG g 0 f := fun f h => by rw [up_ff h, up_ff h, up_ff h]
  have em : ∀ x, x ≠ 4 → x ≠ 5 → x ≠ 6 → v 15 0 0 x = svM (t0 u) 15 0 0 x := fun x h4 h5 h6 => by rw [hv, up_i h6, up_i h5, up_i h4]
  refine ⟨undo_F hI hfr hu (by rw [hv]; exact f14_15 (fun f hf => by rw [up_ff hf, up_ff hf, up_ff hf])) (ck_mono (by omega) (ck_ball (by rw [e2]; exact ha) hb hq c1)) ?_, ?_⟩
  · obtain ⟨⟨⟨s0, s1, s2⟩, ⟨r3, r4, r5, r6⟩, r7, rp, hq2⟩, h2, h3, h4⟩ := t1
    have ee := els_x (g := svG g 0) (u := up (up (up (svG g 0) 3 0 0 0 a) 3 0 0 1 b) 3 0 0 2 q) (k := 0) (by rw [ef 1 (by decide)]) (ef 5 (by decide)) (ef 7 (by decide))
    have me := mls_x (g := svM (t0 u)) (u := v) (fun x hx => em x (by omega) (by omega) (by omega))
    refine ⟨⟨⟨?_, ?_, ?_⟩, ⟨?_, ?_, ?_, ?_⟩, ?_, fun p x a1 b1 c d => ?_, by rw [ee, me]; exact hq2⟩, by rw [ee, me]; exact h2, by rw [em 9 (by decide) (by decide) (by decide)]; exact h3, ?_⟩
    · rw [ef 2 (by decide), em 0 (by decide) (by decide) (by decide)]; exact s0
    · rw [ef 2 (by decide), em 1 (by decide) (by decide) (by decide)]; exact s1
    · rw [ef 2 (by decide), em 2 (by decide) (by decide) (by decide)]; exact s2
    · rw [ef 1 (by decide), em 3 (by decide) (by decide) (by decide)]; exact r3
    · rw [up_i (by decide), up_i (by decide), up_s, hv, up_i (by decide), up_i (by decide), up_s]
    · rw [up_i (by decide), up_s, hv, up_i (by decide), up_s]
    · rw [up_s, hv, up_s]
    · rw [ef 1 (by decide), em 7 (by decide) (by decide) (by decide)]; exact r7
    · rw [ef 6 (by decide), em _ (by omega) (by omega) (by omega)]; exact rp p x a1 b1 c d
    · unfold sumM at h4 ⊢
      rw [em _ (by decide) (by decide) (by decide), em _ (by decide) (by decide) (by decide), em _ (by decide) (by decide) (by decide), em _ (by decide) (by decide) (by decide), em _ (by decide) (by decide) (by decide)]; exact h4
  · rw [h15]; exact hI.2.2.2.2.1.1.2.1.2.1
theorem fur_le {g : St} {v : Int} (h : fur g 0 ≤ v) : g 3 0 0 0 ≤ v ∧ (∀ j, 0 ≤ j → j < 4 → g 6 0 j 0 ≤ v) ∧ ∀ i, 0 ≤ i → i < g 1 0 0 2 → g 7 0 (g 5 0 0 i) 1 ≤ v := by
  unfold fur at h
  rw [mxN_le, mxN_le] at h
  exact ⟨h.1.1, fun j a b => h.1.2 j a (by omega), fun i a b => h.2 i a (by omega)⟩
theorem ck_set {g : St} {n a v : Int} (ha : 0 ≤ a ∧ a < 3) (hv : lsV a ≤ v ∧ v ≤ msV a) (hf : a = 0 → fur g 0 ≤ v) (hc : ck g 0 n) : ck (up g 2 0 0 a v) 0 n := by
  have ef : ∀ f : Nat, f ≠ 2 → up g 2 0 0 a v f = g f := fun f h => up_ff h
  obtain ⟨⟨hS0, hS1, hS2, hB0, hB1, hB2, hCl, hN, hPl, hPm, hPj, hEc, hSo⟩, h6, hbd⟩ := hc
  have e0 : up g 2 0 0 a v 2 0 0 0 = if a = 0 then v else g 2 0 0 0 := by
    by_cases h : a = 0
    · subst h; rw [up_s, if_pos rfl]
    · rw [up_i (Ne.symm h), if_neg h]
  have e1 : up g 2 0 0 a v 2 0 0 1 = if a = 1 then v else g 2 0 0 1 := by
    by_cases h : a = 1
    · subst h; rw [up_s, if_pos rfl]
    · rw [up_i (Ne.symm h), if_neg h]
  have e2 : up g 2 0 0 a v 2 0 0 2 = if a = 2 then v else g 2 0 0 2 := by
    by_cases h : a = 2
    · subst h; rw [up_s, if_pos rfl]
    · rw [up_i (Ne.symm h), if_neg h]
  refine ⟨?_, fun p x y => ?_, ?_⟩
  · unfold wf okE
    rw [e0, e1, e2, ef 1 (by decide), ef 3 (by decide), ef 5 (by decide), ef 6 (by decide), ef 7 (by decide)]
    unfold lsV msV at hv
    by_cases h0 : a = 0
    · have hl := fur_le (hf h0)
      rw [if_pos h0, if_pos h0] at hv
      rw [if_pos h0, if_neg (by omega), if_neg (by omega)]
      refine ⟨hv, hS1, hS2, ⟨hB0.1, hl.1⟩, hB1, hB2, hCl, hN, fun j x y => ⟨(hPl j x y).1, hl.2.1 j x y⟩, hPm, hPj, fun i x y => ?_, hSo⟩
      have o := hEc i x y
      have l := hl.2.2 i x y
      unfold okE at o
      exact ⟨o.1, ⟨o.2.1.1, l⟩, o.2.2⟩
    · rw [if_neg h0, if_neg h0] at hv
      rw [if_neg h0]
      refine ⟨hS0, ?_, ?_, hB0, hB1, hB2, hCl, hN, hPl, hPm, hPj, hEc, hSo⟩
      · by_cases h1 : a = 1
        · rw [if_pos h1, if_pos h1] at hv; rw [if_pos h1]; exact hv
        · rw [if_neg h1]; exact hS1
      · by_cases h2 : a = 2
        · rw [if_neg (by omega), if_neg (by omega)] at hv; rw [if_pos h2]; exact hv
        · rw [if_neg h2]; exact hS2
  · rw [eOf_els, els_x (by rw [ef 1 (by decide)]) (ef 5 (by decide)) (ef 7 (by decide)), ← eOf_els]; exact h6 p x y
  · unfold bd; rw [ef 6 (by decide), ef 1 (by decide)]; exact hbd
theorem fur_fk {g u : St} (h : ∀ f : Nat, 1 ≤ f → f ≤ 7 → u f 0 = g f 0) : fur u 0 = fur g 0 := by
  unfold fur; rw [h 1 (by decide) (by decide), h 3 (by decide) (by decide), h 5 (by decide) (by decide), h 6 (by decide) (by decide), h 7 (by decide) (by decide)]
theorem op_set {g u v : St} {n a w : Int} (hI : INV g n) (ha : 0 ≤ a ∧ a < 3) (hw : lsV a ≤ w ∧ w ≤ msV a) (hf : a = 0 → fur g 0 ≤ w) (hu : ∀ f : Nat, f ≤ 19 → u f = up (svG g 0) 2 0 0 a w f) (hv : v = up (svM (t0 u)) 15 0 0 a w) : (INV v (n + 60) ∧ v 14 0 0 0 = 0 ∧ v 20 = u 20) ∧ g 2 0 0 a = u 15 0 0 a := by
  have c1 := sv_ck hI
  have hfr : fr (svG g 0) (up (svG g 0) 2 0 0 a w) := fr_up (by decide)
  have h15 := u_15 hI hfr (fun f a _ => hu f a)
  have t1 := sv_tS hI h15
  have ef : ∀ f : Nat, f ≠ 2 → up (svG g 0) 2 0 0 a w f = svG g 0 f := fun f h => up_ff h
  have em : ∀ x, 3 ≤ x → v 15 0 0 x = svM (t0 u) 15 0 0 x := fun x h4 => by rw [hv, up_i (by omega)]
  have ea : a = 0 ∨ a = 1 ∨ a = 2 := by omega
  refine ⟨undo_F hI hfr hu (by rw [hv]; exact f14_up) (ck_mono (by omega) (ck_set ha hw (fun h => by rw [fur_fk (svG_0 hI.1)]; exact hf h) c1)) ?_, ?_⟩
  · obtain ⟨⟨⟨s0, s1, s2⟩, ⟨r3, r4, r5, r6⟩, r7, rp, hq2⟩, h2, h3, h4⟩ := t1
    have ee := els_x (g := svG g 0) (u := up (svG g 0) 2 0 0 a w) (k := 0) (by rw [ef 1 (by decide)]) (ef 5 (by decide)) (ef 7 (by decide))
    have me := mls_x (g := svM (t0 u)) (u := v) (fun x hx => em x (by omega))
    have es : ∀ x, 0 ≤ x → x < 3 → svG g 0 2 0 0 x = svM (t0 u) 15 0 0 x → up (svG g 0) 2 0 0 a w 2 0 0 x = v 15 0 0 x := fun x _ _ h => by
      by_cases hx : x = a
      · subst hx; rw [hv, up_s, up_s]
      · rw [hv, up_i hx, up_i hx]; exact h
    refine ⟨⟨⟨es 0 (by decide) (by decide) s0, es 1 (by decide) (by decide) s1, es 2 (by decide) (by decide) s2⟩, ⟨?_, ?_, ?_, ?_⟩, ?_, fun p x a1 b1 c d => ?_, by rw [ee, me]; exact hq2⟩, by rw [ee, me]; exact h2, by rw [em 9 (by decide)]; exact h3, ?_⟩
    · rw [ef 1 (by decide), em 3 (by decide)]; exact r3
    · rw [ef 3 (by decide), em 4 (by decide)]; exact r4
    · rw [ef 3 (by decide), em 5 (by decide)]; exact r5
    · rw [ef 3 (by decide), em 6 (by decide)]; exact r6
    · rw [ef 1 (by decide), em 7 (by decide)]; exact r7
    · rw [ef 6 (by decide), em _ (by omega)]; exact rp p x a1 b1 c d
    · unfold sumM at h4 ⊢
      rw [em _ (by decide), em _ (by decide), em _ (by decide), em _ (by decide), em _ (by decide)]; exact h4
  · obtain ⟨⟨⟨s0, s1, s2⟩, -⟩, -⟩ := hI.2.2.2.2.1
    rw [h15]
    rcases ea with rfl | rfl | rfl
    · exact s0
    · exact s1
    · exact s2
theorem op_back {g u v : St} {n a : Int} (hI : INV g n) (ha : 0 ≤ a ∧ a ≤ 1) (hk : g 11 0 0 a = 1) (hu : ∀ f : Nat, f ≤ 19 → u f = cpE (svG g 0) 0 (1 + a) (svG g 0 1 (1 + a) 0 2).toNat f) (hv : v = gbM (svM (t0 u)) 17 (154 * a) 154) : (INV v (n + 60) ∧ v 14 0 0 0 = 0 ∧ v 20 = u 20) ∧ g 1 (1 + a) 0 0 = u 17 0 0 (154 * a + 3) := by
  have hh := hI.1
  have c0 := sv_ck hI
  have hfr := fr_cp (svG g 0) (1 + a) (svG g 0 1 (1 + a) 0 2).toNat
  have fk : ∀ f : Nat, 1 ≤ f → f ≤ 7 → svG g 0 f (1 + a) = g f (1 + a) := fun f x y => svG_k hh (by omega) 0 f (by omega) (by omega)
  have c1 : ck (svG g 0) (1 + a) n := ck_fk fk (hI.2.1 (1 + a) (by omega) (by omega))
  have sm := cp_same (g := svG g 0) (k := 0) (o := 1 + a) (by omega) c1.1 (pm_of c0.1) rfl
  have hS := (hI.2.2.2.2.2.2.1 a ha.1 (by omega)).2
  have tS : tieS g (1 + a) (vw g 17 (154 * a)) := by
    rcases hS with h | h
    · omega
    · exact h.2
  have u17 : u 17 = g 17 := (hu 17 (by decide)).trans ((hfr.2 17 (by decide)).trans (svG_ff hh (by decide) (by decide) (by decide)))
  have n9 := tieS_n (hI.2.1 (1 + a) (by omega) (by omega)).1 tS
  have hN := (hI.2.1 (1 + a) (by omega) (by omega)).1.2.2.2.2.2.2.2.1
  have m17 : svM (t0 u) 17 = g 17 := by rw [svM_f _ (by decide) (by decide), t0_f (by decide), u17]
  have pmu : pmK (cpE (svG g 0) 0 (1 + a) (svG g 0 1 (1 + a) 0 2).toNat) 0 := by
    have p := pm_of c0.1
    unfold pmK at p ⊢
    rw [cpE_5]; exact p
  refine ⟨undo_F hI hfr hu (by rw [hv]; exact f14_15 (fun f hf => gbM_f _ _ _ _ hf)) (ck_mono (by omega) (ck_same sm pmu c1)) ?_, ?_⟩
  · refine tieS_mx (by omega) (fun x x0 x1 => ?_) (tieS_same sm (tieS_same (same_fk fk) tS))
    show v 15 0 0 x = g 17 0 0 (154 * a + x)
    rw [hv]; unfold gbM
    rw [if_pos ⟨rfl, rfl, rfl, x0, x1⟩, m17]
  · rw [u17]; exact tS.1.2.1.1
