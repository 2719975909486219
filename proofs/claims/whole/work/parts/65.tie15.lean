/-! each call, in both: looks -/
theorem INV_ctr {g : St} {n : Int} (h : INV g n) (hn : n ≤ 40000) : ctr g 0 := fun j q a b c d => by
  have hc := h.2.1 0 (by decide) (by decide)
  have h1 := hc.2.2.1 j q a b c d
  have h2 := hc.1.2.2.2.2.2.2.1
  omega
theorem INV_pl {g : St} {n p q : Int} (h : INV g n) (hn : n ≤ 40000) (hp : 0 ≤ p ∧ p < 4) (hq : 0 ≤ q ∧ q ≤ 5) : 0 ≤ g 15 0 0 (10 + 6 * p + q) ∧ g 15 0 0 (10 + 6 * p + q) ≤ 1000000 := by
  have rp := h.2.2.2.2.1.1.2.2.2.1 p q hp.1 hp.2 hq.1 (by omega)
  rw [← rp]
  by_cases h0 : q = 0
  · subst h0
    have hw := INV_wf h
    have a := hw.2.2.2.2.2.2.2.2.1 p hp.1 hp.2
    have b := hw.1
    omega
  · exact INV_ctr h hn p q hp.1 hp.2 (by omega) hq.2
theorem INV_sum {g : St} {n w : Int} (h : INV g n) (hn : n ≤ 40000) (hw : 0 ≤ w ∧ w ≤ 5) : 0 ≤ sumM g w ∧ sumM g w ≤ 4000000 := by
  have a0 := INV_pl (p := 0) h hn (by decide) hw
  have a1 := INV_pl (p := 1) h hn (by decide) hw
  have a2 := INV_pl (p := 2) h hn (by decide) hw
  have a3 := INV_pl (p := 3) h hn (by decide) hw
  unfold sumM
  omega
theorem INV_ctM {g : St} {n : Int} (h : INV g n) (hn : n ≤ 40000) : ctM g := fun x x7 x34 => by
  have hm := INV_wm h
  by_cases h7 : x = 7
  · subst h7
    have a := h.2.2.2.2.1.1.2.2.1
    have b := (h.2.1 0 (by decide) (by decide)).2.2.2
    omega
  · by_cases h8 : x = 8
    · subst h8
      have a := h.2.2.2.2.1.2.2.2
      have b := INV_sum (w := 2) h hn (by decide)
      omega
    · by_cases h9 : x = 9
      · subst h9
        have a := hm.2.2.2.2.2.2.2.1
        omega
      · have a := INV_pl (p := (x - 10) / 6) (q := (x - 10) % 6) h hn (by omega) (by omega)
        rw [show 10 + 6 * ((x - 10) / 6) + (x - 10) % 6 = x by omega] at a
        omega
/-- a look: nothing but scratch numbers has changed -/
theorem op_look {g u v : St} {n : Int} (hI : INV g n) (hu : ∀ f : Nat, f ≤ 19 → u f = g f) (hf : ∀ f : Nat, f ≠ 14 → v f = u f) (hx : ∀ x, x ≠ 0 → x ≠ 12 → x ≠ 13 → x ≠ 14 → v 14 0 0 x = u 14 0 0 x) : INV v (n + 60) :=
  INV_up (INV_z hI (fun f k a b => by rw [hf f (by omega), hu f (by omega)]) (by rw [hx 3 (by decide) (by decide) (by decide) (by decide), hu 14 (by decide)]) (by rw [hx 7 (by decide) (by decide) (by decide) (by decide), hu 14 (by decide)]) (by rw [hx 8 (by decide) (by decide) (by decide) (by decide), hu 14 (by decide)]; exact hI.2.2.2.1.2.1) (fun f a b => by rw [hf f (by omega), hu f b]))
theorem op_t0 {g u v : St} {n : Int} (hI : INV g n) (hu : ∀ f : Nat, f ≤ 19 → u f = g f) (hv : v = t0 u) : INV v (n + 60) ∧ v 14 0 0 0 = 0 ∧ v 20 = u 20 := by
  rw [hv]
  exact ⟨op_look hI hu (fun f h => t0_f h) (fun x h _ _ _ => t0_x h), t0_0, t0_f (by decide)⟩
theorem tS_u {g u : St} {n : Int} (hI : INV g n) (hu : ∀ f : Nat, f ≤ 19 → u f = g f) : tieS g 0 (t0 u) := tieS_m (by rw [t0_f (by decide), hu 15 (by decide)]) hI.2.2.2.2.1
theorem op_player {g u v : St} {n p w b : Int} (hI : INV g n) (hp : 0 ≤ p ∧ p < 4) (hw : 0 ≤ w ∧ w ≤ 6) (hu : ∀ f : Nat, f ≤ 19 → u f = g f) (hv : v = t0 u) (hb : b = mpl (t0 u) p w) : (INV v (n + 60) ∧ v 14 0 0 0 = 0 ∧ v 20 = u 20) ∧ plN g 0 p w = b := by
  rw [hb]; exact ⟨op_t0 hI hu hv, pl_tie (tS_u hI hu).1 hp hw⟩
theorem op_echo {g u v : St} {n r w b : Int} (hI : INV g n) (hr : 0 ≤ r) (hw : 0 ≤ w ∧ w ≤ 5) (hu : ∀ f : Nat, f ≤ 19 → u f = g f) (hv : v = t0 u) (hb : b = mEt (t0 u) r w) : (INV v (n + 60) ∧ v 14 0 0 0 = 0 ∧ v 20 = u 20) ∧ ecN g 0 r w = b := by
  rw [hb]; exact ⟨op_t0 hI hu hv, et_S (INV_wf hI) (tS_u hI hu) hr hw⟩
theorem ct_S {g m : St} {n w : Int} (hI : INV g n) (hR : tieS g 0 m) (h3 : m 14 0 0 3 = g 14 0 0 3) (hw : 0 ≤ w ∧ w ≤ 11) : ctN g w = mCt m w :=
  ct_tie (INV_wf hI) (wm_of (INV_wf hI) hR) hR.1 hR.2.2.2 (by rw [h3]; exact hI.2.2.2.2.2.1.1) hw
theorem op_count {g u v : St} {n w b : Int} (hI : INV g n) (hw : 0 ≤ w ∧ w ≤ 11) (hu : ∀ f : Nat, f ≤ 19 → u f = g f) (hv : v = t0 u) (hb : b = mCt (t0 u) w) : (INV v (n + 60) ∧ v 14 0 0 0 = 0 ∧ v 20 = u 20) ∧ ctN g w = b := by
  rw [hb]; exact ⟨op_t0 hI hu hv, ct_S hI (tS_u hI hu) (by rw [t0_3, hu 14 (by decide)]) hw⟩
theorem op_setting {g u v : St} {n a b : Int} (hI : INV g n) (ha : 0 ≤ a ∧ a < 3) (hu : ∀ f : Nat, f ≤ 19 → u f = g f) (hv : v = t0 u) (hb : b = u 15 0 0 a) : (INV v (n + 60) ∧ v 14 0 0 0 = 0 ∧ v 20 = u 20) ∧ g 2 0 0 a = b := by
  rw [hb, hu 15 (by decide)]
  refine ⟨op_t0 hI hu hv, ?_⟩
  obtain ⟨⟨⟨s0, s1, s2⟩, -⟩, -⟩ := hI.2.2.2.2.1
  have ea : a = 0 ∨ a = 1 ∨ a = 2 := by omega
  rcases ea with rfl | rfl | rfl
  · exact s0
  · exact s1
  · exact s2
theorem bnG_x (g : St) (t w : Int) : ∀ (f : Nat) (k : Int), ¬ (f = 3 ∧ k = 9) → bnG g t w f k = g f k := fun f k h => by
  unfold bnG; split
  · rfl
  · by_cases hf : f = 3
    · subst hf; exact sbG_k g t (fun hx => h ⟨rfl, hx⟩)
    · rw [sbG_f g t hf]
theorem op_ball {g u v : St} {n t w b : Int} (hI : INV g n) (hw : 0 ≤ w ∧ w ≤ 2) (hu : ∀ f : Nat, f ≤ 19 → u f = bnG g t w f) (hv : v = mbM (t0 u) t) (hb : b = mbA (t0 u) t w) : (INV v (n + 60) ∧ v 14 0 0 0 = 0 ∧ v 20 = u 20) ∧ bnN g t w = b := by
  have ug : ∀ (f : Nat) (k : Int), f ≤ 19 → ¬ (f = 3 ∧ k = 9) → u f k = g f k := fun f k a h => by rw [hu f a, bnG_x g t w f k h]
  have uf : ∀ f : Nat, f ≤ 19 → f ≠ 3 → u f = g f := fun f a h => by funext k; exact ug f k a (fun hx => h hx.1)
  have vf : ∀ f : Nat, f ≠ 14 → v f = u f := fun f h => by rw [hv, mbM_f _ _ h, t0_f h]
  have vx : ∀ x, x ≠ 12 → x ≠ 13 → v 14 0 0 x = t0 u 14 0 0 x := fun x h1 h2 => by rw [hv]; unfold mbM mbT mbG; rw [up_i h2, up_i h1, up_i h2, up_i h1]
  have u14 := uf 14 (by decide) (by decide)
  have hR : tieS g 0 (t0 u) := tieS_m (by rw [t0_f (by decide), uf 15 (by decide) (by decide)]) hI.2.2.2.2.1
  rw [hb]
  refine ⟨⟨INV_up (INV_z hI (fun f k a h => by rw [vf f (by omega), ug f k (by omega) h]) (by rw [vx 3 (by decide) (by decide), t0_3, u14]) (by rw [vx 7 (by decide) (by decide), t0_x (by decide), u14]) (by rw [vx 8 (by decide) (by decide), t0_x (by decide), u14]; exact hI.2.2.2.1.2.1) (fun f a h => by rw [vf f (by omega), uf f h (by omega)])), by rw [vx 0 (by decide) (by decide), t0_0], vf 20 (by decide)⟩, bn_tie hR.1 hw⟩
theorem op_eIn {g u v : St} {n p w b : Int} (hI : INV g n) (hp : 0 ≤ p ∧ p < 4) (hu : ∀ f : Nat, f ≤ 19 → u f = g f) (hv : v = t0 u) (hb : b = mD1 (t0 u) p w) : (INV v (n + 60) ∧ v 14 0 0 0 = 0 ∧ v 20 = u 20) ∧ eT g 0 (g 6 0 p 0) w = b := by
  rw [hb]; exact ⟨op_t0 hI hu hv, eT_tie (tS_u hI hu).1 hp⟩
theorem if_cg {p q : Prop} [Decidable p] [Decidable q] (h : p ↔ q) : (if p then (1 : Int) else 0) = if q then 1 else 0 := by
  by_cases hp : p
  · rw [if_pos hp, if_pos (h.mp hp)]
  · rw [if_neg hp, if_neg (fun hq => hp (h.mpr hq))]
theorem op_clash {g u v : St} {n p w b : Int} (hI : INV g n) (hp : 0 ≤ p ∧ p < 4) (hw : 0 ≤ w ∧ w ≤ 1) (hu : ∀ f : Nat, f ≤ 19 → u f = g f) (hv : v = t0 u) (hb : b = (if mIs (t0 u) p w 0 then 1 else 0)) : (INV v (n + 60) ∧ v 14 0 0 0 = 0 ∧ v 20 = u 20) ∧ (if eT g 0 (g 6 0 p 0) w = eT g 0 (g 6 0 p 0) (1 - w) ∨ eDue g 0 (g 6 0 p 0) (g 1 0 0 0 + eT g 0 (g 6 0 p 0) w) then 1 else 0) = b := by
  rw [hb]; exact ⟨op_t0 hI hu hv, if_cg (cl_tie (tS_u hI hu).1 hp hw)⟩
theorem op_wait {g u v : St} {n p b : Int} (hI : INV g n) (hp : 0 ≤ p ∧ p < 4) (hu : ∀ f : Nat, f ≤ 19 → u f = g f) (hv : v = t0 u) (hb : b = mBw (t0 u) p) : (INV v (n + 60) ∧ v 14 0 0 0 = 0 ∧ v 20 = u 20) ∧ (if eT g 0 (g 6 0 p 0) 0 = eT g 0 (g 6 0 p 0) 1 then -1 else frst (pW g 0 (g 6 0 p 0)) 61 0) = b := by
  rw [hb]; exact ⟨op_t0 hI hu hv, ci_tie (tS_u hI hu).1 hp⟩
theorem op_quiet {g u v : St} {n b : Int} (hI : INV g n) (hu : ∀ f : Nat, f ≤ 19 → u f = g f) (hv : v = t0 u) (hb : b = mQu (t0 u) - t0 u 15 0 0 3) : (INV v (n + 60) ∧ v 14 0 0 0 = 0 ∧ v 20 = u 20) ∧ (if 0 < g 1 0 0 2 then eF g 0 (g 1 0 0 2 - 1) 3 - g 1 0 0 0 else 0) = b := by
  rw [hb]; exact ⟨op_t0 hI hu hv, qu_tie (INV_wf hI) (tS_u hI hu).1⟩
theorem op_best {g u v : St} {n b : Int} (hI : INV g n) (hu : ∀ f : Nat, f ≤ 19 → u f = g f) (hv : v = t0 u) (hb : b = mBs (t0 u) 4) : (INV v (n + 60) ∧ v 14 0 0 0 = 0 ∧ v 20 = u 20) ∧ bst g 0 = b := by
  rw [hb]; exact ⟨op_t0 hI hu hv, bs_tie (tS_u hI hu).1⟩
theorem op_share {g u v : St} {n : Int} {b : UInt64} (hI : INV g n) (hu : ∀ f : Nat, f ≤ 19 → u f = g f) (hv : v = t0 u) (hb : b = shMM (t0 u)) : (INV v (n + 60) ∧ v 14 0 0 0 = 0 ∧ v 20 = u 20) ∧ shK g 0 = b := by
  rw [hb]; exact ⟨op_t0 hI hu hv, sh_tie (tS_u hI hu).1⟩
/-! the digest -/
theorem hs_cg {f f2 : Int → Int} : ∀ (n : Nat) (h : Int), (∀ i : Int, 0 ≤ i → i < n → f i = f2 i) → hs f n h = hs f2 n h
  | 0, _, _ => rfl
  | n + 1, h, hf => by rw [hs, hs, hs_cg n h (fun i a b => hf i a (by omega)), hf n (by omega) (by omega)]
theorem mp_tie {g m : St} {p h : Int} (hR : tie g 0 m) (hp : 0 ≤ p ∧ p < 4) : mpN g h p = mpH m p h := by
  have pl := fun w a b => pl_tie (w := w) hR hp ⟨a, b⟩
  have c0 := if_cg (cl_tie (w := 0) hR hp (by decide))
  have c1 := if_cg (cl_tie (w := 1) hR hp (by decide))
  have t0' := eT_tie (w := 0) hR hp
  have t1' := eT_tie (w := 1) hR hp
  have ci := ci_tie hR hp
  unfold mpN mpH
  rw [c0, c1, ci, t0', t1', pl 0 (by decide) (by decide), pl 1 (by decide) (by decide), pl 2 (by decide) (by decide), pl 3 (by decide) (by decide), pl 4 (by decide) (by decide), pl 5 (by decide) (by decide), pl 6 (by decide) (by decide)]
  rfl
theorem dg_S {g u : St} {n : Int} (hI : INV g n) (hu : ∀ f : Nat, f ≤ 19 → ∀ k, ¬ (f = 3 ∧ k = 9) → u f k = g f k) : dgC g = dgM u := by
  have uf : ∀ f : Nat, f ≤ 19 → f ≠ 3 → u f = g f := fun f a h => by funext k; exact hu f a k (fun hx => h hx.1)
  have u14 := uf 14 (by decide) (by decide)
  have u15 := uf 15 (by decide) (by decide)
  have hR : tieS g 0 u := tieS_m u15 hI.2.2.2.2.1
  have hw := INV_wf hI
  have hm := wm_of hw hR
  have hx := hI.2.2.2.2.2.2.2
  have hl := hI.2.2.1.1
  have h7 : g 12 0 0 1 = g 14 0 0 7 := hx.1
  have hk := hI.2.2.2.2.2.2.1
  have h1 : cd1 g = dg1 u := by
    unfold cd1 dg1
    rw [hs_cg 12 3467 (fun w a b => ct_S hI hR (by rw [u14]) ⟨a, by omega⟩)]
    refine hs_cg 3 _ (fun i a b => ?_)
    obtain ⟨⟨s0, s1, s2⟩, -⟩ := hR.1
    have : i = 0 ∨ i = 1 ∨ i = 2 := by omega
    rcases this with rfl | rfl | rfl
    · exact s0
    · exact s1
    · exact s2
  have hA : ∀ (k : Nat) (h : Int), k ≤ 4 → cpA g k h = mpA u k h := fun k => by
    induction k with
    | zero => intro h _; rfl
    | succ k ih => intro h hk; rw [cpA, mpA, ih h (by omega)]; exact mp_tie hR.1 ⟨by omega, by omega⟩
  have hE : ∀ (k : Nat) (h : Int), ceH g k h = meH u k h := fun k => by
    induction k with
    | zero => intro h; rfl
    | succ k ih =>
      intro h
      rw [ceH, meH, ih h]
      exact hs_cg 6 _ (fun w a b => et_S hw hR (by omega) ⟨a, by omega⟩)
  have h2 : ceH g (g 1 0 0 2).toNat (cpA g 4 (cd1 g)) = dg2 u := by
    unfold dg2
    rw [h1, hA 4 _ (by decide), hE, tieS_n hw hR]
  have bn := fun t w a b => bn_tie (t := t) (w := w) hR.1 ⟨a, b⟩
  have h3 : cd2 g = hs (fun i => bD u i) 6 (dg2 u) := by
    unfold cd2 mbN
    rw [h2, bn 7 0 (by decide) (by decide), bn 7 1 (by decide) (by decide), bn 7 2 (by decide) (by decide), bn 50 0 (by decide) (by decide), bn 50 1 (by decide) (by decide), bn 50 2 (by decide) (by decide)]
    rfl
  have h4 : cd3 g = dg3 u := by
    unfold cd3 dg3
    rw [h3, qu_tie hw hR.1, bs_tie hR.1, sh_tie hR.1]
  unfold dgC cd4 dgM
  rw [h4, hx.1]
  have k0 := (hk 0 (by decide) (by decide)).1
  have k1 := (hk 1 (by decide) (by decide)).1
  have e2 : hs (fun i => g 11 0 0 i) 2 (dg3 u) = 31 * (31 * dg3 u + u 18 0 0 0) + u 18 0 0 1 := by
    rw [uf 18 (by decide) (by decide), ← k0, ← k1]; rfl
  rw [e2, u14]
  refine hs_cg _ _ (fun i a b => ?_)
  rw [uf 19 (by decide) (by decide), ← hx.2 i a (by omega)]
  unfold cdA
  rw [if_pos (by omega)]
theorem op_digest {g u v : St} {n b : Int} (hI : INV g n) (hu : ∀ f : Nat, f ≤ 19 → u f = sbG g 50 f) (hf : fD u v b) : (INV v (n + 60) ∧ v 20 = u 20) ∧ (b = dgM u → dgC g = b) := by
  have ug : ∀ f : Nat, f ≤ 19 → ∀ k, ¬ (f = 3 ∧ k = 9) → u f k = g f k := fun f a k h => by
    rw [hu f a]
    by_cases h3 : f = 3
    · subst h3; exact sbG_k g 50 (fun hx => h ⟨rfl, hx⟩)
    · rw [sbG_f g 50 h3]
  have u14 : u 14 = g 14 := by funext k; exact ug 14 (by decide) k (by omega)
  obtain ⟨vf, vx, -, -⟩ := hf
  refine ⟨⟨INV_up (INV_z hI (fun f k a h => by rw [vf f (by omega), ug f (by omega) k h]) (by rw [vx 3 (by decide) (by decide) (by decide) (by decide), u14]) (by rw [vx 7 (by decide) (by decide) (by decide) (by decide), u14]) (by rw [vx 8 (by decide) (by decide) (by decide) (by decide), u14]; exact hI.2.2.2.1.2.1) (fun f a h => by rw [vf f (by omega)]; funext k; exact ug f h k (by omega))), vf 20 (by decide)⟩, fun h => ?_⟩
  rw [h]; exact dg_S hI ug
