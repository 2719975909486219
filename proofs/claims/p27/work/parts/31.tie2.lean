theorem cb_78 {u : St} {e a x : Int} (h : x = 7 ∨ x = 8) (hx : 0 ≤ u 15 0 0 (34 + 5 * e + 0) ∧ u 15 0 0 (34 + 5 * e + 0) < 4) : cbG u e a 15 0 0 x = u 15 0 0 x := by
  have hk := cbK_in u e a
  unfold cbG; split
  · rw [up_i (by omega), up_i (by omega), cb2_i (by omega) (by omega)]
  · rw [cb1_i (by omega)]
theorem tpE_78 {u : St} {p a x : Int} (hx : x = 7 ∨ x = 8) (h : wm (u 15 0 0) 0) : ∀ n : Nat, (n : Int) ≤ u 15 0 0 9 → (tpE u p a n).1 15 0 0 x = u 15 0 0 x
  | 0, _ => rfl
  | n + 1, hn => by
    have ih := tpE_78 (p := p) (a := a) hx h n (by omega)
    have hi := tpE_in (p := p) (a := a) h n (by omega)
    have h9 := hi.1.2.1 9 (by decide)
    have ho := hi.1.1.2.2.2.2.2.2.2.2.2 n (by omega) (by omega)
    unfold okM at ho
    rw [tpE]; split
    · exact (cb_78 hx ho.1).trans ih
    · exact ih
theorem tpP_78 {h : St} {x : Int} (hx : x = 7 ∨ x = 8) (hw : wm (h 15 0 0) 0) : ∀ n : Nat, (tpP h n).1 15 0 0 x = h 15 0 0 x
  | 0 => rfl
  | n + 1 => by
    have ih := tpP_78 hx hw n
    have hi := tpP_in hw n
    have h9 := hi.1.2.1 9 (by decide)
    have hN := hw.2.2.2.2.2.2.2.1
    rw [tpP]
    exact (tpE_78 hx hi.1.1 _ (by omega)).trans ih
theorem tbG_1 (g : St) (k : Int) : tbG g k 1 k 0 1 = g 1 k 0 1 := by simp only [tbG, bl, up]; grind
theorem turn_tie {g u m : St} {k z : Int} (hw : wf g k 1) (hm : wm (m 15 0 0) 1) (hc : m 15 0 0 3 + 1 ≤ 100000) (hR : tie g k m) (ht : tr g u k z) : tie u k (tuM m).1 ∧ z = (tuM m).2 := by
  obtain ⟨b, hb, h1, h2, hz, hd⟩ := ht
  have tf := turn_fold hw hm hc hR hb h1 h2
  have hmc := wm_mt hm hc
  have hdt := due_take hw hb h1 h2
  have cf := ca_fold (tbG g k) k b.toNat (by rw [tbG_2]; omega)
  have cc : ∀ f : Nat, f ≠ 3 → f ≠ 6 → (caN (tbG g k) k b.toNat).1 f = tbG g k f := fun f a b => caN_f _ _ a b _
  have tp := tpP_in hmc (m 15 0 0 0 + 1).toNat
  have t7 := tpP_78 (x := 7) (Or.inl rfl) hmc (m 15 0 0 0 + 1).toNat
  have b3 := tbG_3 g k
  have m46 := mtC_46 (g := m)
  obtain ⟨⟨s0, s1, s2⟩, ⟨r3, r4, r5, r6⟩, r7, rp, hp⟩ := hR
  have ed : els u k = (els g k).drop b.toNat := by
    have e1 : els (caN (tbG g k) k b.toNat).1 k = els g k := els_x (by rw [cc 1 (by decide) (by decide), tbG_2]) (by rw [cc 5 (by decide) (by decide), tbG_f _ _ (by decide) (by decide)]) (by rw [cc 7 (by decide) (by decide), tbG_f _ _ (by decide) (by decide)])
    have n1 : (caN (tbG g k) k b.toNat).1 1 k 0 2 = g 1 k 0 2 := by rw [cc 1 (by decide) (by decide), tbG_2]
    rw [els_drp (by omega) hd, e1]
  obtain ⟨v, ⟨hv, -⟩, rfl⟩ := hd
  generalize hC : caN (tbG g k) k b.toNat = C at *
  generalize hT : tpP (mtC m) (m 15 0 0 0 + 1).toNat = T at *
  have tu : tuM m = (ddG T.1, T.2) := by unfold tuM; rw [hT]
  have lo : ∀ x : Int, x < 34 → x ≠ 9 → ddG T.1 15 0 0 x = T.1 15 0 0 x := fun x a b => by unfold ddG; rw [up_i b, dpM_lo _ _ a]
  have f1 : rs (fun p x => C.1 6 k p x) = rs (fun p x => T.1 15 0 0 (10 + 6 * p + x)) := congrArg (fun q : AS => q.1) tf
  have f2 : C.1 3 k 0 1 = T.1 15 0 0 5 := congrArg (fun q : AS => q.2.1) tf
  have f3 : C.1 3 k 0 2 = T.1 15 0 0 6 := congrArg (fun q : AS => q.2.2.1) tf
  have f4 : C.2 = T.2 := congrArg (fun q : AS => q.2.2.2) tf
  have tu1 : (tuM m).1 = ddG T.1 := by rw [tu]
  have tu2 : (tuM m).2 = T.2 := by rw [tu]
  rw [tu1, tu2]
  have tx := tp.1.2.1
  refine ⟨⟨⟨?_, ?_, ?_⟩, ⟨?_, ?_, ?_, ?_⟩, ?_, fun p x p0 p4 x0 x6 => ?_, ?_⟩, by rw [hz, f4]⟩
  · rw [up_f (by decide), hv 2 k 0 0 (by omega), cc 2 (by decide) (by decide), tbG_f _ _ (by decide) (by decide), lo 0 (by decide) (by decide), tx 0 (by decide), mtC_x m (by decide) (by decide) (by decide), s0]
  · rw [up_f (by decide), hv 2 k 0 1 (by omega), cc 2 (by decide) (by decide), tbG_f _ _ (by decide) (by decide), lo 1 (by decide) (by decide), tx 1 (by decide), mtC_x m (by decide) (by decide) (by decide), s1]
  · rw [up_f (by decide), hv 2 k 0 2 (by omega), cc 2 (by decide) (by decide), tbG_f _ _ (by decide) (by decide), lo 2 (by decide) (by decide), tx 2 (by decide), mtC_x m (by decide) (by decide) (by decide), s2]
  · rw [up_i (by decide), hv 1 k 0 0 (by omega), cc 1 (by decide) (by decide), tbG_0, lo 3 (by decide) (by decide), tx 3 (by decide), mtC_3, r3]
  · rw [up_f (by decide), hv 3 k 0 0 (by omega), cf.2.1, b3.1, lo 4 (by decide) (by decide), tx 4 (by decide), m46.1, s0, r4, r5, r6]
  · rw [up_f (by decide), hv 3 k 0 1 (by omega), f2, lo 5 (by decide) (by decide)]
  · rw [up_f (by decide), hv 3 k 0 2 (by omega), f3, lo 6 (by decide) (by decide)]
  · rw [up_i (by decide), hv 1 k 0 1 (by omega), cc 1 (by decide) (by decide), tbG_1, lo 7 (by decide) (by decide), t7, mtC_x m (by decide) (by decide) (by decide), r7]
  · have := congrFun (congrFun f1 p) x
    simp only [rs] at this
    rw [if_pos ⟨p0, p4, x0, x6⟩, if_pos ⟨p0, p4, x0, x6⟩] at this
    rw [up_f (by decide), hv 6 k p x (by omega), this, lo _ (by omega) (by omega)]
  · rw [ed, mls_dd, ← hdt.2, tx 3 (by decide), mtC_3, r3]
    have e : mls T.1 = mls m := (mls_x (fun x hx => tx x (by omega))).trans (mls_x (fun x hx => mtC_x m (by omega) (by omega) (by omega)))
    rw [e]
    exact hp.filter _
