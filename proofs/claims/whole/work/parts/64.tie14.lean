/-! each call, in both: run, snapshots, undo, the text, looks -/
theorem fe_f {m : St} (hb : wb m) : fw (t0 m) (fe 61 (up (t0 m) 14 0 0 8 0)).1 := by
  have h0 : wb (t0 m) := wb_up hb (by decide) (by decide)
  have hf := (fe_in 61 (wb_up8 h0)).1
  refine ⟨hf.1, ?_, fun f k j i hn => ?_⟩
  · have a := hf.2.1
    have b := hb.2.1
    have c := hb.1
    rw [up_s] at a
    rw [up_i (by decide)] at a
    have e7 : t0 m 14 0 0 7 = m 14 0 0 7 := t0_x (by decide)
    have e8 : t0 m 14 0 0 8 = m 14 0 0 8 := t0_x (by decide)
    rw [e7] at a
    rw [e7, e8]
    sorry
  · rw [hf.2.2 f k j i hn]
    simp only [up]; rw [if_neg (by omega)]
theorem er_x (u : St) (c : Int) : (∀ f : Nat, f ≠ 14 → er u c f = u f) ∧ (∀ x, x ≠ 0 → er u c 14 0 0 x = u 14 0 0 x) ∧ er u c 14 0 0 0 = c := ⟨fun f h => by show up (up u 14 0 0 0 0) 14 0 0 0 c f = u f; rw [up_ff h, up_ff h], fun x h => by show up (up u 14 0 0 0 0) 14 0 0 0 c 14 0 0 x = _; rw [up_i h, up_i h], up_s⟩
/-- a call that is refused by an exception: both throw -/
theorem op_er {g u : St} {n c : Int} (hI : INV g n) (hu : ∀ f : Nat, f ≤ 19 → u f = g f) : INV (er u c) (n + 60) ∧ er u c 14 0 0 0 = c ∧ er u c 20 = u 20 := by
  obtain ⟨e1, e2, e3⟩ := er_x u c
  have h := INV_z (v := er u c) hI (fun f k a b => by rw [e1 f (by omega), hu f (by omega)]) (by rw [e2 3 (by decide), hu 14 (by decide)]) (by rw [e2 7 (by decide), hu 14 (by decide)]) (by rw [e2 8 (by decide), hu 14 (by decide)]; exact hI.2.2.2.1.2.1) (fun f a b => by rw [e1 f (by omega), hu f b])
  exact ⟨⟨h.1, fun k a b => ck_mono (by omega) (h.2.1 k a b), h.2.2⟩, e3, e1 20 (by decide)⟩
theorem INV_up {g : St} {n : Int} (h : INV g n) : INV g (n + 60) := ⟨h.1, fun k a b => ck_mono (by omega) (h.2.1 k a b), h.2.2⟩
