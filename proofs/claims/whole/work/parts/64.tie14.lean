/-! each call, in both: run, snapshots, undo, the text -/
theorem er_x (u : St) (c : Int) : (∀ f : Nat, f ≠ 14 → er u c f = u f) ∧ (∀ x, x ≠ 0 → er u c 14 0 0 x = u 14 0 0 x) ∧ er u c 14 0 0 0 = c := ⟨fun f h => by show up (up u 14 0 0 0 0) 14 0 0 0 c f = u f; rw [up_ff h, up_ff h], fun x h => by show up (up u 14 0 0 0 0) 14 0 0 0 c 14 0 0 x = _; rw [up_i h, up_i h], up_s⟩
theorem INV_up {g : St} {n : Int} (h : INV g n) : INV g (n + 60) := ⟨h.1, fun k a b => ck_mono (by omega) (h.2.1 k a b), h.2.2⟩
/-- a call that is refused by an exception: both throw -/
theorem op_er {g u : St} {n c : Int} (hI : INV g n) (hu : ∀ f : Nat, f ≤ 19 → u f = g f) : INV (er u c) (n + 60) ∧ er u c 14 0 0 0 = c ∧ er u c 20 = u 20 := by
  obtain ⟨e1, e2, e3⟩ := er_x u c
  have h := INV_z (v := er u c) hI (fun f k a b => by rw [e1 f (by omega), hu f (by omega)]) (by rw [e2 3 (by decide), hu 14 (by decide)]) (by rw [e2 7 (by decide), hu 14 (by decide)]) (by rw [e2 8 (by decide), hu 14 (by decide)]; exact hI.2.2.2.1.2.1) (fun f a b => by rw [e1 f (by omega), hu f b])
  exact ⟨INV_up h, e3, e1 20 (by decide)⟩
theorem fe_x {u : St} (hb : wb u) : (∀ f : Nat, f ≠ 14 → (fe 61 (up (t0 u) 14 0 0 8 0)).1 f = u f) ∧ (∀ x, x ≠ 0 → (x < 8 ∨ 11 < x) → (fe 61 (up (t0 u) 14 0 0 8 0)).1 14 0 0 x = u 14 0 0 x) ∧ (fe 61 (up (t0 u) 14 0 0 8 0)).1 14 0 0 0 = 0 ∧ (0 ≤ (fe 61 (up (t0 u) 14 0 0 8 0)).1 14 0 0 8 ∧ (fe 61 (up (t0 u) 14 0 0 8 0)).1 14 0 0 8 ≤ 100) := by
  have hf := (fe_in 61 (wb_up8 (show wb (t0 u) from wb_up hb (by decide) (by decide)))).1
  refine ⟨fun f h => ?_, fun x h hx => ?_, ?_, hf.1.2.1⟩
  · funext k j i; rw [hf.2.2 f k j i (by omega), up_ff h, t0_f h]
  · rw [hf.2.2 14 0 0 x (by omega), up_i (by omega), t0_x h]
  · rw [hf.2.2 14 0 0 0 (by omega), up_i (by decide), t0_0]
theorem fe_S {u : St} (hb : wb u) : FES u (fe 61 (up (t0 u) 14 0 0 8 0)).2 := by
  have h := fe_spec 61 (m := up (t0 u) 14 0 0 8 0) (P := 0) up_s (by decide) (by rw [up_i (by decide), t0_x (by decide)]; exact hb.1.1) rfl (by rw [up_i (by decide), t0_x (by decide)]; have := hb.1; omega)
  have e7 : up (t0 u) 14 0 0 8 0 14 0 0 7 = u 14 0 0 7 := by rw [up_i (by decide), t0_x (by decide)]
  have e19 : up (t0 u) 14 0 0 8 0 19 = u 19 := by rw [up_ff (by decide), t0_f (by decide)]
  unfold FES at h ⊢
  rw [e7, e19] at h
  exact h.imp id (fun q => ⟨q.1, FL_x e7.symm e19.symm q.2 |> fun z => by unfold FL at *; rw [e7, e19] at *; assumption⟩)
theorem op_fe {g u v : St} {n b : Int} (hI : INV g n) (hu : ∀ f : Nat, f ≤ 19 → u f = g f) (hv : v = (fe 61 (up (t0 u) 14 0 0 8 0)).1) (hb : b = if (fe 61 (up (t0 u) 14 0 0 8 0)).2 = -1 then (fe 61 (up (t0 u) 14 0 0 8 0)).1 14 0 0 7 else (fe 61 (up (t0 u) 14 0 0 8 0)).2) : (INV v (n + 60) ∧ v 20 = u 20) ∧ erI (g 13 0 0) (g 12 0 0 1) = b := by
  have hwb : wb u := by
    have := hI.2.2.2.1
    unfold wb at this ⊢
    rw [hu 14 (by decide), hu 19 (by decide)]; exact this
  obtain ⟨e1, e2, e3, e4⟩ := fe_x hwb
  have hS := fe_S hwb
  have hx := hI.2.2.2.2.2.2.2
  have ht := er_tie (g := g) (m := u) hI.2.2.1.1 (by rw [hu 14 (by decide)]; exact hx.1) (by rw [hu 19 (by decide)]; exact hx.2) hS
  rw [hv, hb, e2 7 (by decide) (by decide)]
  exact ⟨⟨INV_up (INV_z hI (fun f k a b => by rw [e1 f (by omega), hu f (by omega)]) (by rw [e2 3 (by decide) (by decide), hu 14 (by decide)]) (by rw [e2 7 (by decide) (by decide), hu 14 (by decide)]) e4 (fun f a b => by rw [e1 f (by omega), hu f b])), e1 20 (by decide)⟩, ht.1⟩
/-- the text alone has changed -/
theorem INV_t {g v : St} {n : Int} (h : INV g n) (hc : ∀ f : Nat, f ≤ 11 → v f = g f) (h3 : v 14 0 0 3 = g 14 0 0 3) (hm : ∀ f : Nat, 15 ≤ f → f ≤ 18 → v f = g f) (ht : wt v) (hb : wb v) (hx : txT v) : INV v n := by
  obtain ⟨a1, a2, a3, a4, a5, ⟨a6, a7⟩, a8, a9⟩ := h
  have e8 := hc 8 (by decide)
  have e9 := hc 9 (by decide)
  have e11 := hc 11 (by decide)
  have fk : ∀ k : Int, ∀ f : Nat, 1 ≤ f → f ≤ 7 → v f k = g f k := fun k f x y => by rw [hc f (by omega)]
  refine ⟨by unfold wh; rw [e8, e9]; exact a1, fun k x y => ck_fk (fk k) (a2 k x y), ht, hb, tieS_m (hm 15 (by decide) (by decide)) (tieS_same (same_fk (fk 0)) a5), ?_, fun a x y => ?_, hx⟩
  · refine ⟨by rw [e8, h3]; exact a6, fun i x y => ?_⟩
    rw [e8] at y
    rw [e9, vw_x (hm 16 (by decide) (by decide))]
    exact tieS_same (same_fk (fk _)) (a7 i x y)
  · rw [e11, hm 18 (by decide) (by decide), vw_x (hm 17 (by decide) (by decide))]
    have q := a8 a x y
    exact ⟨q.1, q.2.imp id (fun r => ⟨r.1, tieS_same (same_fk (fk _)) r.2⟩)⟩
theorem op_append {g u v : St} {n a : Int} (hI : INV g n) (ha : 33 ≤ a ∧ a ≤ 126) (hl : g 12 0 0 1 < 60) (hu : ∀ f : Nat, f ≤ 19 → u f = up (up g 13 0 0 (g 12 0 0 1) a) 12 0 0 1 (g 12 0 0 1 + 1) f) (hv : v = up (up (t0 u) 19 0 0 (u 14 0 0 7) a) 14 0 0 7 (u 14 0 0 7 + 1)) : (INV v (n + 60) ∧ v 14 0 0 0 = 0 ∧ v 20 = u 20) ∧ g 12 0 0 1 + 1 = u 14 0 0 7 + 1 := by
  have u14 : u 14 = g 14 := by rw [hu 14 (by decide), up_ff (by decide), up_ff (by decide)]
  have hx := hI.2.2.2.2.2.2.2
  have hwt := hI.2.2.1
  have hwb := hI.2.2.2.1
  have uf : ∀ f : Nat, f ≤ 19 → f ≠ 12 → f ≠ 13 → u f = g f := fun f a b c => by rw [hu f a, up_ff b, up_ff c]
  have vf : ∀ f : Nat, f ≠ 14 → f ≠ 19 → v f = u f := fun f a b => by rw [hv, up_ff a, up_ff b, t0_f a]
  have vx : ∀ x, x ≠ 0 → x ≠ 7 → v 14 0 0 x = g 14 0 0 x := fun x a b => by rw [hv, up_i b, up_f (by decide), t0_x a, u14]
  have e12 : v 12 0 0 1 = g 12 0 0 1 + 1 := by rw [vf 12 (by decide) (by decide), hu 12 (by decide), up_s]
  have e13 : ∀ i, v 13 0 0 i = if i = g 12 0 0 1 then a else g 13 0 0 i := fun i => by
    rw [vf 13 (by decide) (by decide), hu 13 (by decide), up_f (by decide)]
    by_cases h : i = g 12 0 0 1
    · subst h; rw [up_s, if_pos rfl]
    · rw [up_i h, if_neg h]
  have e7 : v 14 0 0 7 = g 14 0 0 7 + 1 := by rw [hv, up_s, u14]
  have e19 : ∀ i, v 19 0 0 i = if i = g 12 0 0 1 then a else g 19 0 0 i := fun i => by
    rw [hv, up_f (by decide), u14, hx.1]
    by_cases h : i = g 14 0 0 7
    · subst h; rw [up_s, if_pos rfl]
    · rw [up_i h, if_neg h, t0_f (by decide), uf 19 (by decide) (by decide) (by decide)]
  refine ⟨⟨INV_up (INV_t hI (fun f h => by rw [vf f (by omega) (by omega), uf f (by omega) (by omega) (by omega)]) (vx 3 (by decide) (by decide)) (fun f a b => by rw [vf f (by omega) (by omega), uf f (by omega) (by omega) (by omega)]) ⟨by rw [e12]; have := hwt.1; omega, fun i x y => ?_⟩ ⟨by rw [e7]; have := hwb.1; have := hx.1; omega, by rw [vx 8 (by decide) (by decide)]; exact hwb.2.1, fun i x y => ?_⟩ ⟨by rw [e12, e7, hx.1], fun i x y => ?_⟩), ?_, vf 20 (by decide) (by decide)⟩, by rw [u14, hx.1]⟩
  · rw [e13]; split
    · omega
    · exact hwt.2 i x y
  · rw [e19]; split
    · omega
    · exact hwb.2.2 i x y
  · rw [e13, e19]; split
    · rfl
    · exact hx.2 i x y
  · rw [hv, up_i (by decide), up_f (by decide), t0_0]
theorem op_clear {g u v : St} {n : Int} (hI : INV g n) (hu : ∀ f : Nat, f ≤ 19 → u f = up g 12 0 0 1 0 f) (hv : v = up (up u 14 0 0 0 0) 14 0 0 7 0) : (INV v (n + 60) ∧ v 20 = u 20) ∧ g 12 0 0 1 = u 14 0 0 7 := by
  have uf : ∀ f : Nat, f ≤ 19 → f ≠ 12 → u f = g f := fun f a b => by rw [hu f a, up_ff b]
  have hx := hI.2.2.2.2.2.2.2
  have hwt := hI.2.2.1
  have hwb := hI.2.2.2.1
  have vf : ∀ f : Nat, f ≠ 14 → v f = u f := fun f a => by rw [hv, up_ff a, up_ff a]
  have vx : ∀ x, x ≠ 0 → x ≠ 7 → v 14 0 0 x = g 14 0 0 x := fun x a b => by rw [hv, up_i b, up_i a, uf 14 (by decide) (by decide)]
  have e12 : v 12 0 0 1 = 0 := by rw [vf 12 (by decide), hu 12 (by decide), up_s]
  have e7 : v 14 0 0 7 = 0 := by rw [hv, up_s]
  have e13 : v 13 = g 13 := by rw [vf 13 (by decide), uf 13 (by decide) (by decide)]
  have e19 : v 19 = g 19 := by rw [vf 19 (by decide), uf 19 (by decide) (by decide)]
  refine ⟨⟨INV_up (INV_t hI (fun f h => by rw [vf f (by omega), uf f (by omega) (by omega)]) (vx 3 (by decide) (by decide)) (fun f a b => by rw [vf f (by omega), uf f (by omega) (by omega)]) ⟨by rw [e12]; decide, by rw [e13]; exact hwt.2⟩ ⟨by rw [e7]; decide, by rw [vx 8 (by decide) (by decide)]; exact hwb.2.1, by rw [e19]; exact hwb.2.2⟩ ⟨by rw [e12, e7], by rw [e13, e19]; exact hx.2⟩), vf 20 (by decide)⟩, by rw [uf 14 (by decide) (by decide)]; exact hx.1⟩
theorem op_run {g v0 u v : St} {n z b : Int} (hI : INV g n) (ha : stN (g 13 0 0) (g 12 0 0 1).toNat = 9 ∨ stN (g 13 0 0) (g 12 0 0 1).toNat = 8) (hr : rnC 60 (svG g 0) 0 v0 z) (hu : ∀ f : Nat, f ≤ 19 → u f = up v0 12 0 0 1 0 f) (hv : v = up (rnM 61 (rn0 u)).1 14 0 0 7 0) (hb : b = (rnM 61 (rn0 u)).2) : (INV v (n + 60) ∧ v 14 0 0 0 = 0 ∧ v 20 = u 20) ∧ z = b := by
  have hh := hI.1
  have hx := hI.2.2.2.2.2.2.2
  have hwt := hI.2.2.1
  have c1 := sv_ck hI
  have hfr := fr_rn 60 hr
  have uv : ∀ f : Nat, f ≤ 19 → f ≠ 12 → u f = v0 f := fun f a b => by rw [hu f a, up_ff b]
  have ug : ∀ f : Nat, 13 ≤ f → f ≤ 19 → u f = g f := fun f a b => (uv f b (by omega)).trans ((hfr.2 f (by omega)).trans (svG_ff hh (by omega) (by omega) (by omega)))
  have s12 : svG g 0 12 = g 12 := svG_ff hh (by decide) (by decide) (by decide)
  have s13 : svG g 0 13 = g 13 := svG_ff hh (by decide) (by decide) (by decide)
  have u14 := ug 14 (by decide) (by decide)
  have u15 := ug 15 (by decide) (by decide)
  have u16 := ug 16 (by decide) (by decide)
  have u19 := ug 19 (by decide) (by decide)
  have hwb : wb u := by
    have := hI.2.2.2.1
    unfold wb at this ⊢
    rw [u14, u19]; exact this
  obtain ⟨e1, e2, e3, e4⟩ := fe_x hwb
  have rI0 : rI (rn0 u) := rn0_I hwb (by rw [u15]; exact INV_wm hI) (fun p x y => by rw [mUw_15 u15]; exact INV_n6 hI p x y)
  have r15 : rn0 u 15 = g 15 := by unfold rn0; rw [up_ff (by decide), svM_f _ (by decide) (by decide), e1 15 (by decide), u15]
  have r7 : rn0 u 14 0 0 7 = g 14 0 0 7 := by unfold rn0; rw [up_i (by decide), svM_x _ (by decide), e2 7 (by decide) (by decide), u14]
  have r19 : rn0 u 19 = g 19 := by unfold rn0; rw [up_ff (by decide), svM_f _ (by decide) (by decide), e1 19 (by decide), u19]
  have tS : tieS (svG g 0) 0 (rn0 u) := tieS_m r15 (tieS_same (same_fk (svG_0 hh)) hI.2.2.2.2.1)
  have acc : stN (rn0 u 19 0 0) (rn0 u 14 0 0 7).toNat = 9 ∨ stN (rn0 u 19 0 0) (rn0 u 14 0 0 7).toNat = 8 := by
    rw [r19, r7]
    have hl := hwt.1
    have e := stN_cg (c := g 13 0 0) (d := g 19 0 0) (g 12 0 0 1).toNat (fun i x y => hx.2 i x (by omega))
    rw [e, hx.1] at ha; exact ha
  have rS := rn_S 61 60 (g := svG g 0) (u := v0) (m := rn0 u) (P := 0) (z := z) c1.1 c1.2.1 (by unfold wt; rw [s12, s13]; exact hwt) tS rI0 (by rw [s12, r7]; exact hx.1) (by rw [s13, r19]; exact hx.2) acc (by unfold rn0; rw [up_s]) (by decide) (fun _ => ⟨rfl, Or.inl rfl⟩) (by rw [r7]; have := hwt.1; have := hx.1; omega) (by rw [r7]; have := hwt.1; have := hx.1; omega) hr
  have rO := rn_ok 60 (b := n) c1.1 c1.2.1 (by unfold wt; rw [s12, s13]; exact hwt) (by rw [s12, s13]; exact ha) (Int.le_refl 0) c1.2.2 hr
  obtain ⟨fR, iR⟩ := rnM_ok 61 rI0
  have sv := svM_cg (u := (fe 61 (up (t0 u) 14 0 0 8 0)).1) (g := t0 u) (by rw [e2 3 (by decide) (by decide), t0_3]) (by rw [e1 15 (by decide), t0_f (by decide)]) (by rw [e1 16 (by decide), t0_f (by decide)])
  have vf : ∀ f : Nat, f ≠ 14 → f ≠ 15 → v f = svM (t0 u) f := fun f a b => by
    rw [hv, up_ff a, fR.2 f a b]; unfold rn0
    rw [up_ff a]
    by_cases h : f = 16
    · subst h; exact sv.2
    · rw [svM_f _ a h, svM_f _ a h, e1 f a, t0_f a]
  have vg : ∀ f : Nat, f ≠ 14 → f ≠ 15 → f ≠ 16 → v f = u f := fun f a b c => by rw [vf f a b, svM_f _ a c, t0_f a]
  have v3 : v 14 0 0 3 = svM (t0 u) 14 0 0 3 := by
    rw [hv, up_i (by decide), fR.1 3 (by decide)]; unfold rn0
    rw [up_i (by decide)]; exact sv.1
  have v12 : v 12 0 0 1 = 0 := by rw [vg 12 (by decide) (by decide) (by decide), hu 12 (by decide), up_s]
  have v13 : v 13 = g 13 := by rw [vg 13 (by decide) (by decide) (by decide)]; exact ug 13 (by decide) (by decide)
  have v19 : v 19 = g 19 := by rw [vg 19 (by decide) (by decide) (by decide)]; exact u19
  have v7 : v 14 0 0 7 = 0 := by rw [hv, up_s]
  have v8 : v 14 0 0 8 = (rnM 61 (rn0 u)).1 14 0 0 8 := by rw [hv, up_i (by decide)]
  refine ⟨⟨undo_G hI hfr uv v3 vf ⟨rO.1, rO.2.1, rO.2.2⟩ (tieS_m (by rw [hv, up_ff (by decide)]) rS.1) ⟨by rw [v12]; decide, by rw [v13]; exact hwt.2⟩ ⟨by rw [v7]; decide, by rw [v8]; exact iR.1.2.1, by rw [v19]; exact hI.2.2.2.1.2.2⟩ ⟨by rw [v12, v7], by rw [v13, v19]; exact hx.2⟩, ?_, vg 20 (by decide) (by decide) (by decide)⟩, by rw [hb]; exact rS.2⟩
  rw [hv, up_i (by decide), fR.1 0 (by decide)]; unfold rn0
  rw [up_i (by decide), svM_x _ (by decide), e3]
theorem op_keep {g u v : St} {n a : Int} (hI : INV g n) (ha : 0 ≤ a ∧ a ≤ 1) (hu : ∀ f : Nat, f ≤ 19 → u f = up (cpE g (1 + a) 0 (g 1 0 0 2).toNat) 11 0 0 a 1 f) (hv : v = up (ksM (t0 u) a 154) 18 0 0 a 1) : (INV v (n + 60) ∧ v 14 0 0 0 = 0 ∧ v 20 = u 20) ∧ g 1 0 0 0 = u 15 0 0 3 := by
  have c0 := hI.2.1 0 (by decide) (by decide)
  have ca := hI.2.1 (1 + a) (by omega) (by omega)
  have hwm := INV_wm hI
  have uf : ∀ f : Nat, 8 ≤ f → f ≤ 19 → f ≠ 11 → u f = g f := fun f x y z => by rw [hu f y, up_ff z, cpE_f _ _ _ x]
  have ks : ∀ f : Nat, f ≠ 17 → ksM (t0 u) a 154 f = t0 u f := fun f h => by
    funext k j x; simp only [ksM]; rw [if_neg (fun hx => h hx.1)]
  have vf : ∀ f : Nat, f ≠ 14 → f ≠ 17 → f ≠ 18 → v f = u f := fun f x y z => by rw [hv, up_ff z, ks f y, t0_f x]
  have vx : ∀ x, x ≠ 0 → v 14 0 0 x = g 14 0 0 x := fun x h => by rw [hv, up_f (by decide), ks 14 (by decide), t0_x h, uf 14 (by decide) (by decide) (by decide)]
  have vc : ∀ f : Nat, 1 ≤ f → f ≤ 7 → ∀ k, v f k = cpE g (1 + a) 0 (g 1 0 0 2).toNat f k := fun f x y k => by rw [vf f (by omega) (by omega) (by omega), hu f (by omega), up_ff (by omega)]
  have sc : sameK v (1 + a) g 0 := same_tr (same_fk (fun f x y => vc f x y (1 + a))) (cp_same (by omega) c0.1 (pm_of ca.1) rfl)
  have so : ∀ k, k ≠ 1 + a → ∀ f : Nat, 1 ≤ f → f ≤ 7 → v f k = g f k := fun k hk f x y => by rw [vc f x y k, cpE_k _ _ _ hk]
  have e8 : v 8 = g 8 := by rw [vf 8 (by decide) (by decide) (by decide), uf 8 (by decide) (by decide) (by decide)]
  have e9 : v 9 = g 9 := by rw [vf 9 (by decide) (by decide) (by decide), uf 9 (by decide) (by decide) (by decide)]
  have e12 : v 12 = g 12 := by rw [vf 12 (by decide) (by decide) (by decide), uf 12 (by decide) (by decide) (by decide)]
  have e13 : v 13 = g 13 := by rw [vf 13 (by decide) (by decide) (by decide), uf 13 (by decide) (by decide) (by decide)]
  have e15 : v 15 = g 15 := by rw [vf 15 (by decide) (by decide) (by decide), uf 15 (by decide) (by decide) (by decide)]
  have e16 : v 16 = g 16 := by rw [vf 16 (by decide) (by decide) (by decide), uf 16 (by decide) (by decide) (by decide)]
  have e19 : v 19 = g 19 := by rw [vf 19 (by decide) (by decide) (by decide), uf 19 (by decide) (by decide) (by decide)]
  have u15 : u 15 = g 15 := uf 15 (by decide) (by decide) (by decide)
  have e11 : ∀ i, v 11 0 0 i = if i = a then 1 else g 11 0 0 i := fun i => by
    rw [vf 11 (by decide) (by decide) (by decide), hu 11 (by decide)]
    by_cases h : i = a
    · subst h; rw [up_s, if_pos rfl]
    · rw [up_i h, if_neg h, cpE_f _ _ _ (by decide)]
  have e18 : ∀ i, v 18 0 0 i = if i = a then 1 else g 18 0 0 i := fun i => by
    rw [hv]
    by_cases h : i = a
    · subst h; rw [up_s, if_pos rfl]
    · rw [up_i h, if_neg h, ks 18 (by decide), t0_f (by decide), uf 18 (by decide) (by decide) (by decide)]
  have e17a : ∀ x, 0 ≤ x → x < 154 → v 17 0 0 (154 * a + x) = g 15 0 0 x := fun x h0 h1 => by
    rw [hv, up_f (by decide)]; unfold ksM
    rw [if_pos ⟨rfl, rfl, rfl, by omega, by omega⟩, t0_f (by decide), u15]; congr 1; omega
  have e17b : ∀ i x, i ≠ a → 0 ≤ x → x < 154 → v 17 0 0 (154 * i + x) = g 17 0 0 (154 * i + x) := fun i x hi h0 h1 => by
    rw [hv, up_f (by decide)]; unfold ksM
    rw [if_neg (by omega), t0_f (by decide), uf 17 (by decide) (by decide) (by decide)]
  obtain ⟨a1, a2, a3, a4, a5, ⟨a6, a7⟩, a8, a9⟩ := hI
  refine ⟨⟨INV_up ⟨by unfold wh; rw [e8, e9]; exact a1, fun k x y => ?_, by unfold wt; rw [e12, e13]; exact a3, ?_, tieS_m e15 (tieS_same (same_fk (so 0 (by omega))) a5), ⟨by rw [e8, vx 3 (by decide)]; exact a6, fun i x y => ?_⟩, fun i x y => ?_, ?_⟩, ?_, vf 20 (by decide) (by decide) (by decide)⟩, by rw [u15]; exact a5.1.2.1.1⟩
  · by_cases hk : k = 1 + a
    · subst hk
      refine ck_same sc ?_ c0
      have p := pm_of ca.1
      unfold pmK at p ⊢
      rw [vc 5 (by decide) (by decide), cpE_5]; exact p
    · exact ck_fk (so k hk) (a2 k x y)
  · unfold wb at a4 ⊢
    rw [vx 7 (by decide), vx 8 (by decide), e19]; exact a4
  · rw [e8] at y
    have q := a1.2.1 i x (by have := a1.1; omega)
    rw [e9, vw_x e16]
    exact tieS_same (same_fk (so _ (by omega))) (a7 i x y)
  · rw [e11, e18]
    by_cases hi : i = a
    · subst hi
      rw [if_pos rfl]
      refine ⟨by rw [if_pos rfl], Or.inr ⟨rfl, tieS_mx (by have := hwm.2.2.2.2.2.2.2.1; omega) (fun z z0 z1 => e17a z z0 z1) (tieS_same sc a5)⟩⟩
    · rw [if_neg hi, if_neg hi]
      have q := a8 i x y
      refine ⟨q.1, q.2.imp id (fun r => ⟨r.1, ?_⟩)⟩
      have ci := a2 (1 + i) (by omega) (by omega)
      have n9 := tieS_n ci.1 r.2
      have hN := ci.1.2.2.2.2.2.2.2.1
      exact tieS_mx (m := vw g 17 (154 * i)) (by show g 17 0 0 (154 * i + 9) ≤ 24; have n9 : g 1 (1 + i) 0 2 = g 17 0 0 (154 * i + 9) := n9; omega) (fun z z0 z1 => e17b i z hi z0 z1) (tieS_same (same_fk (so (1 + i) (by omega))) r.2)
  · unfold txT
    rw [e12, e13, vx 7 (by decide), e19]; exact a9
  · rw [hv, up_f (by decide), ks 14 (by decide), t0_0]
theorem op_undo {g u v : St} {n : Int} (hI : INV g n) (h8 : 0 < g 8 0 0 1) (hu : ∀ f : Nat, f ≤ 19 → u f = rsG g 0 f) (hv : v = gbM (up (t0 u) 14 0 0 3 (u 14 0 0 3 - 1)) 16 ((u 14 0 0 3 - 1) * 154) 154) : (INV v (n + 60) ∧ v 14 0 0 0 = 0 ∧ v 20 = u 20) ∧ g 8 0 0 1 - 1 = u 14 0 0 3 - 1 := by
  have c0 := hI.2.1 0 (by decide) (by decide)
  obtain ⟨a1, a2, a3, a4, a5, ⟨a6, a7⟩, a8, a9⟩ := hI
  have hs := a1.1
  have hc := a1.2.1 (g 8 0 0 1 - 1) (by omega) (by omega)
  have cc := a2 (g 9 0 0 (g 8 0 0 1 - 1)) (by omega) (by omega)
  have tc := a7 (g 8 0 0 1 - 1) (by omega) (by omega)
  have G8 : ∀ f : Nat, f ≠ 8 → up g 8 0 0 1 (g 8 0 0 1 - 1) f = g f := fun f h => up_ff h
  have uf : ∀ f : Nat, 9 ≤ f → f ≤ 19 → u f = g f := fun f x y => by rw [hu f y]; unfold rsG; rw [cpE_f _ _ _ (by omega), G8 f (by omega)]
  have u14 := uf 14 (by decide) (by decide)
  have gf : ∀ f : Nat, f ≠ 14 → f ≠ 15 → v f = u f := fun f x y => by rw [hv, gbM_f _ _ _ _ y, up_ff x, t0_f x]
  have vx : ∀ x, x ≠ 0 → x ≠ 3 → v 14 0 0 x = g 14 0 0 x := fun x h h3 => by rw [hv, gbM_f _ _ _ _ (by decide), up_i h3, t0_x h, u14]
  have v3 : v 14 0 0 3 = g 14 0 0 3 - 1 := by rw [hv, gbM_f _ _ _ _ (by decide), up_s, u14]
  have e8 : v 8 0 0 1 = g 8 0 0 1 - 1 := by rw [gf 8 (by decide) (by decide), hu 8 (by decide)]; unfold rsG; rw [cpE_f _ _ _ (by decide), up_s]
  have vg : ∀ f : Nat, 9 ≤ f → f ≤ 19 → f ≠ 14 → f ≠ 15 → v f = g f := fun f x y z w => by rw [gf f z w, uf f x y]
  have vc : ∀ f : Nat, 1 ≤ f → f ≤ 7 → ∀ k, v f k = cpE (up g 8 0 0 1 (g 8 0 0 1 - 1)) 0 (g 9 0 0 (g 8 0 0 1 - 1)) (g 1 (g 9 0 0 (g 8 0 0 1 - 1)) 0 2).toNat f k := fun f x y k => by rw [gf f (by omega) (by omega), hu f (by omega)]; rfl
  have ccU : wf (up g 8 0 0 1 (g 8 0 0 1 - 1)) (g 9 0 0 (g 8 0 0 1 - 1)) 1 := wf_ff (fun f x y => G8 f (by omega)) cc.1
  have c0U : wf (up g 8 0 0 1 (g 8 0 0 1 - 1)) 0 1 := wf_ff (fun f x y => G8 f (by omega)) c0.1
  have sc : sameK v 0 g (g 9 0 0 (g 8 0 0 1 - 1)) := by
    refine same_tr (same_fk (fun f x y => vc f x y 0)) (same_tr (cp_same (by omega) ccU (pm_of c0U) (by rw [G8 1 (by decide)])) (same_fk (fun f x y => by rw [G8 f (by omega)])))
  have so : ∀ k, k ≠ 0 → ∀ f : Nat, 1 ≤ f → f ≤ 7 → v f k = g f k := fun k hk f x y => by rw [vc f x y k, cpE_k _ _ _ hk, G8 f (by omega)]
  have n9 := tieS_n cc.1 tc
  have hN := cc.1.2.2.2.2.2.2.2.1
  have e15 : ∀ x, 0 ≤ x → x < 154 → v 15 0 0 x = g 16 0 0 (154 * (g 8 0 0 1 - 1) + x) := fun x x0 x1 => by
    rw [hv]; unfold gbM
    rw [if_pos ⟨rfl, rfl, rfl, x0, x1⟩, up_ff (by decide), t0_f (by decide), uf 16 (by decide) (by decide), u14, ← a6]; congr 1; omega
  refine ⟨⟨INV_up ⟨⟨by rw [e8]; omega, by rw [vg 9 (by decide) (by decide) (by decide) (by decide)]; exact a1.2.1, by rw [vg 9 (by decide) (by decide) (by decide) (by decide)]; exact a1.2.2⟩, fun k x y => ?_, by unfold wt; rw [vg 12 (by decide) (by decide) (by decide) (by decide), vg 13 (by decide) (by decide) (by decide) (by decide)]; exact a3, ?_, tieS_mx (by omega) e15 (tieS_same sc tc), ⟨by rw [e8, v3, a6], fun i x y => ?_⟩, fun i x y => ?_, ?_⟩, ?_, gf 20 (by decide) (by decide)⟩, by rw [u14, a6]⟩
  · by_cases hk : k = 0
    · subst hk
      refine ck_same sc ?_ cc
      have p := pm_of c0.1
      unfold pmK at p ⊢
      rw [vc 5 (by decide) (by decide), cpE_5, G8 5 (by decide)]; exact p
    · exact ck_fk (so k hk) (a2 k x y)
  · unfold wb at a4 ⊢
    rw [vx 7 (by decide) (by decide), vx 8 (by decide) (by decide), vg 19 (by decide) (by decide) (by decide) (by decide)]; exact a4
  · rw [e8] at y
    have q := a1.2.1 i x (by omega)
    rw [vg 9 (by decide) (by decide) (by decide) (by decide), vw_x (vg 16 (by decide) (by decide) (by decide) (by decide))]
    exact tieS_same (same_fk (so _ (by omega))) (a7 i x (by omega))
  · rw [vg 11 (by decide) (by decide) (by decide) (by decide), vg 18 (by decide) (by decide) (by decide) (by decide), vw_x (vg 17 (by decide) (by decide) (by decide) (by decide))]
    have q := a8 i x y
    exact ⟨q.1, q.2.imp id (fun r => ⟨r.1, tieS_same (same_fk (so _ (by omega))) r.2⟩)⟩
  · unfold txT
    rw [vg 12 (by decide) (by decide) (by decide) (by decide), vg 13 (by decide) (by decide) (by decide) (by decide), vx 7 (by decide) (by decide), vg 19 (by decide) (by decide) (by decide) (by decide)]; exact a9
  · rw [hv, gbM_f _ _ _ _ (by decide), up_i (by decide), t0_0]
