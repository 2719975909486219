/-! what the law compares, of each call -/
theorem rs_f {g : St} {f : Nat} (h : 9 ≤ f) : rsG g 0 f = g f := by unfold rsG; rw [cpE_f _ _ _ (by omega), up_ff (by omega)]
theorem bnG_ff {g : St} {t w : Int} {f : Nat} (h : 9 ≤ f) : bnG g t w f = g f := by funext k; exact bnG_x g t w f k (by omega)
theorem tS_u2 {g u : St} {n : Int} (hI : INV g n) (hf : ∀ f : Nat, 14 ≤ f → f ≤ 19 → u f = g f) : tieS g 0 (t0 u) := tieS_m (by rw [t0_f (by decide), hf 15 (by decide) (by decide)]) hI.2.2.2.2.1
theorem MI_of {g u : St} {n : Int} (hI : INV g n) (hn : n ≤ 40000) (hf : ∀ f : Nat, 14 ≤ f → f ≤ 19 → u f = g f) : wm (u 15 0 0) 1 ∧ (0 ≤ u 14 0 0 3 ∧ u 14 0 0 3 ≤ 6) ∧ n6M u ∧ wb u ∧ ctM u ∧ (∀ w, 0 ≤ w → w ≤ 5 → 0 ≤ sumM u w ∧ sumM u w ≤ 300000000) ∧ (∀ i, 0 ≤ i → i < 2 → u 18 0 0 i = 0 ∨ u 18 0 0 i = 1) := by
  have f15 := hf 15 (by decide) (by decide)
  have f14' := hf 14 (by decide) (by decide)
  refine ⟨by rw [f15]; exact INV_wm hI, by rw [f14']; exact INV_3 hI, fun p a b => by rw [mUw_15 f15]; exact INV_n6 hI p a b, ?_, e_ctM f15 (INV_ctM hI hn), fun w a b => ?_, fun i a b => ?_⟩
  · have := hI.2.2.2.1
    unfold wb at this ⊢
    rw [f14', hf 19 (by decide) (by decide)]; exact this
  · have := INV_sum hI hn ⟨a, b⟩
    rw [e_sumM f15]; omega
  · have h1 := (hI.2.2.2.2.2.2.1 i a b).1
    have h2 := INV_kp hI i a b
    rw [hf 18 (by decide) (by decide), ← h1]; exact h2
theorem acc_S {g u : St} {n : Int} (hI : INV g n) (hf : ∀ f : Nat, 14 ≤ f → f ≤ 19 → u f = g f) : (stN (g 13 0 0) (g 12 0 0 1).toNat = 9 ∨ stN (g 13 0 0) (g 12 0 0 1).toNat = 8) ↔ (fe 61 (up (t0 u) 14 0 0 8 0)).2 = -1 := by
  have hwb : wb u := by
    have := hI.2.2.2.1
    unfold wb at this ⊢
    rw [hf 14 (by decide) (by decide), hf 19 (by decide) (by decide)]; exact this
  have hx := hI.2.2.2.2.2.2.2
  exact (er_tie (g := g) (m := u) hI.2.2.1.1 (by rw [hf 14 (by decide) (by decide)]; exact hx.1) (by rw [hf 19 (by decide) (by decide)]; exact hx.2) (fe_S hwb)).2
theorem op_erR {g u : St} {n : Int} (hI : INV g n) (hu : ∀ f : Nat, f ≤ 19 → u f = g f) : INV (up (fe 61 (up (t0 u) 14 0 0 8 0)).1 14 0 0 0 1) (n + 60) ∧ up (fe 61 (up (t0 u) 14 0 0 8 0)).1 14 0 0 0 1 14 0 0 0 = 1 := by
  have hwb : wb u := by
    have := hI.2.2.2.1
    unfold wb at this ⊢
    rw [hu 14 (by decide), hu 19 (by decide)]; exact this
  obtain ⟨e1, e2, e3, e4⟩ := fe_x hwb
  refine ⟨INV_up (INV_z hI (fun f k a b => by rw [up_ff (by omega), e1 f (by omega), hu f (by omega)]) (by rw [up_i (by decide), e2 3 (by decide) (by decide), hu 14 (by decide)]) (by rw [up_i (by decide), e2 7 (by decide) (by decide), hu 14 (by decide)]) (by rw [up_i (by decide)]; exact e4) (fun f a b => by rw [up_ff (by omega), e1 f (by omega), hu f b])), up_s⟩

theorem fu_call {g u : St} {n p w : Int} {r9 : Int32} (hI : INV g n) (hP : (fun (r9 : Int32) (u : St) => (r9 = iI 0 ∧ ∃ (rr : Int32) (u0 : St), (fun (r9 : Int32) (u : St) => ∃ z : Int, r9 = iI z ∧ (((0 ≤ p ∧ p < 4) ∧ (0 ≤ w ∧ w ≤ 9)) ∧ se (svG g 0) u 0 p w z)) rr u0 ∧ u = up u0 20 0 0 0 rr.toInt) ∨ (r9 = iI 1 ∧ u = g ∧ (fun E => (E = eIX ∧ ¬ (0 ≤ p ∧ p < 4)) ∨ (E = eIA ∧ (0 ≤ p ∧ p < 4) ∧ ¬ (0 ≤ w ∧ w ≤ 9))) eIX) ∨ (r9 = iI 2 ∧ u = g ∧ (fun E => (E = eIX ∧ ¬ (0 ≤ p ∧ p < 4)) ∨ (E = eIA ∧ (0 ≤ p ∧ p < 4) ∧ ¬ (0 ≤ w ∧ w ≤ 9))) eIA)) r9 u) : ∀ f : Nat, 14 ≤ f → f ≤ 19 → u f = g f := by
  intro f a1 b1
  rcases hP with ⟨rfl, rr, u0, hP, hu⟩ | ⟨rfl, hu, hx⟩ | ⟨rfl, hu, hx⟩
  · obtain ⟨z, hr, ⟨hc1, hc2⟩, hs⟩ := hP
    rw [hu, up_ff (show f ≠ 20 by omega), (fr_se hs).2 f (by omega), svG_ff hI.1 (by omega) (by omega) (by omega)]
  · rw [hu]
  · rw [hu]
set_option maxHeartbeats 4000000 in
theorem st_call {g u y9 : St} {n p w : Int} {r9 rb : Int32} (hI : INV g n) (hP : (fun (r9 : Int32) (u : St) => (r9 = iI 0 ∧ ∃ (rr : Int32) (u0 : St), (fun (r9 : Int32) (u : St) => ∃ z : Int, r9 = iI z ∧ (((0 ≤ p ∧ p < 4) ∧ (0 ≤ w ∧ w ≤ 9)) ∧ se (svG g 0) u 0 p w z)) rr u0 ∧ u = up u0 20 0 0 0 rr.toInt) ∨ (r9 = iI 1 ∧ u = g ∧ (fun E => (E = eIX ∧ ¬ (0 ≤ p ∧ p < 4)) ∨ (E = eIA ∧ (0 ≤ p ∧ p < 4) ∧ ¬ (0 ≤ w ∧ w ≤ 9))) eIX) ∨ (r9 = iI 2 ∧ u = g ∧ (fun E => (E = eIX ∧ ¬ (0 ≤ p ∧ p < 4)) ∨ (E = eIA ∧ (0 ≤ p ∧ p < 4) ∧ ¬ (0 ≤ w ∧ w ≤ 9))) eIA)) r9 u) (hM : (fun (r9 : Int32) (y9 : St) => ∃ z : Int, r9 = iI z ∧ ((¬ (0 ≤ p ∧ p ≤ 3) ∧ y9 = er u 1 ∧ z = 0) ∨ ((0 ≤ p ∧ p ≤ 3) ∧ ¬ (0 ≤ w ∧ w ≤ 9) ∧ y9 = er u 2 ∧ z = 0) ∨ ((0 ≤ p ∧ p ≤ 3) ∧ (0 ≤ w ∧ w ≤ 9) ∧ y9 = dcM (svM (t0 u)) p w ∧ z = dcR (svM (t0 u)) p))) rb y9) : ∃ k : Int, r9 = iI k ∧ rg k ∧ y9 14 0 0 0 = k ∧ (k = 0 → y9 20 0 0 0 = rb.toInt) ∧ INV y9 (n + 60) := by
  have hf := fu_call hI hP
  obtain ⟨b9, rfl, hM⟩ := hM
  rcases hP with ⟨rfl, rr, u0, hP, hu⟩ | ⟨rfl, hu, hx⟩ | ⟨rfl, hu, hx⟩
  · obtain ⟨z, hr, ⟨hc1, hc2⟩, hs⟩ := hP
    rcases hM with ⟨m1, hv, hb⟩ | ⟨m1, m2, hv, hb⟩ | ⟨m1, m2, hv, hb⟩
    · exfalso; omega
    · exfalso; omega
    · have o := op_call hI hc1 hc2 hs (fun f h => by rw [hu]; exact up_ff (by omega)) hv hb
      exact ⟨0, rfl, by decide, o.1.2.1, fun _ => by rw [o.1.2.2, show u 20 0 0 0 = rr.toInt by rw [hu, up_s], hr, o.2], o.1.1⟩
  · have hxx := hx
    rcases hxx with ⟨h9, hx⟩ | ⟨h9, hx⟩
    · skip
      rcases hM with ⟨m1, hv, hb⟩ | ⟨m1, m2, hv, hb⟩ | ⟨m1, m2, hv, hb⟩
      · have o := op_er (c := 1) hI (u := u) (fun f _ => by rw [hu])
        rw [hv]; exact ⟨1, rfl, by decide, o.2.1, fun h => absurd h (by decide), o.1⟩
      · exfalso; omega
      · exfalso; omega
    · exact absurd h9 (by decide)
  · have hxx := hx
    rcases hxx with ⟨h9, hx⟩ | ⟨h9, hx⟩
    · exact absurd h9 (by decide)
    · skip
      rcases hM with ⟨m1, hv, hb⟩ | ⟨m1, m2, hv, hb⟩ | ⟨m1, m2, hv, hb⟩
      · exfalso; omega
      · have o := op_er (c := 2) hI (u := u) (fun f _ => by rw [hu])
        rw [hv]; exact ⟨2, rfl, by decide, o.2.1, fun h => absurd h (by decide), o.1⟩
      · exfalso; omega
theorem fu_walk {g u : St} {n p b : Int} {r9 : Int32} (hI : INV g n) (hP : (fun (r9 : Int32) (u : St) => (r9 = iI 0 ∧ ∃ (rr : Int32) (u0 : St), (fun (r9 : Int32) (u9 : St) => r9 = iI (mvR (svG g 0) 0 p b) ∧ u9 = (mvG (svG g 0) 0 p b) ∧ ((0 ≤ p ∧ p < 4) ∧ (-9 ≤ b ∧ b ≤ 9))) rr u0 ∧ u = up u0 20 0 0 0 rr.toInt) ∨ (r9 = iI 1 ∧ u = g ∧ (fun E => (E = eIX ∧ ¬ (0 ≤ p ∧ p < 4)) ∨ (E = eIA ∧ (0 ≤ p ∧ p < 4) ∧ ¬ (-9 ≤ b ∧ b ≤ 9))) eIX) ∨ (r9 = iI 2 ∧ u = g ∧ (fun E => (E = eIX ∧ ¬ (0 ≤ p ∧ p < 4)) ∨ (E = eIA ∧ (0 ≤ p ∧ p < 4) ∧ ¬ (-9 ≤ b ∧ b ≤ 9))) eIA)) r9 u) : ∀ f : Nat, 14 ≤ f → f ≤ 19 → u f = g f := by
  intro f a1 b1
  rcases hP with ⟨rfl, rr, u0, hP, hu⟩ | ⟨rfl, hu, hx⟩ | ⟨rfl, hu, hx⟩
  · obtain ⟨hr, h0, hc1, hc2⟩ := hP
    rw [hu, up_ff (show f ≠ 20 by omega), h0, (fr_mv _ _ _).2 f (by omega), svG_ff hI.1 (by omega) (by omega) (by omega)]
  · rw [hu]
  · rw [hu]
set_option maxHeartbeats 4000000 in
theorem st_walk {g u y9 : St} {n p b : Int} {r9 rb : Int32} (hI : INV g n) (hP : (fun (r9 : Int32) (u : St) => (r9 = iI 0 ∧ ∃ (rr : Int32) (u0 : St), (fun (r9 : Int32) (u9 : St) => r9 = iI (mvR (svG g 0) 0 p b) ∧ u9 = (mvG (svG g 0) 0 p b) ∧ ((0 ≤ p ∧ p < 4) ∧ (-9 ≤ b ∧ b ≤ 9))) rr u0 ∧ u = up u0 20 0 0 0 rr.toInt) ∨ (r9 = iI 1 ∧ u = g ∧ (fun E => (E = eIX ∧ ¬ (0 ≤ p ∧ p < 4)) ∨ (E = eIA ∧ (0 ≤ p ∧ p < 4) ∧ ¬ (-9 ≤ b ∧ b ≤ 9))) eIX) ∨ (r9 = iI 2 ∧ u = g ∧ (fun E => (E = eIX ∧ ¬ (0 ≤ p ∧ p < 4)) ∨ (E = eIA ∧ (0 ≤ p ∧ p < 4) ∧ ¬ (-9 ≤ b ∧ b ≤ 9))) eIA)) r9 u) (hM : (fun (r9 : Int32) (y9 : St) => ∃ z : Int, r9 = iI z ∧ ((¬ (0 ≤ p ∧ p ≤ 3) ∧ y9 = er u 1 ∧ z = 0) ∨ ((0 ≤ p ∧ p ≤ 3) ∧ ¬ (-9 ≤ b ∧ b ≤ 9) ∧ y9 = er u 2 ∧ z = 0) ∨ ((0 ≤ p ∧ p ≤ 3) ∧ (-9 ≤ b ∧ b ≤ 9) ∧ y9 = mvGM (svM (t0 u)) p b ∧ z = mvRM (svM (t0 u)) p b))) rb y9) : ∃ k : Int, r9 = iI k ∧ rg k ∧ y9 14 0 0 0 = k ∧ (k = 0 → y9 20 0 0 0 = rb.toInt) ∧ INV y9 (n + 60) := by
  have hf := fu_walk hI hP
  obtain ⟨b9, rfl, hM⟩ := hM
  rcases hP with ⟨rfl, rr, u0, hP, hu⟩ | ⟨rfl, hu, hx⟩ | ⟨rfl, hu, hx⟩
  · obtain ⟨hr, h0, hc1, hc2⟩ := hP
    rcases hM with ⟨m1, hv, hb⟩ | ⟨m1, m2, hv, hb⟩ | ⟨m1, m2, hv, hb⟩
    · exfalso; omega
    · exfalso; omega
    · have o := op_walk hI hc1 (fun f h => by rw [hu, h0]; exact up_ff (by omega)) hv hb
      exact ⟨0, rfl, by decide, o.1.2.1, fun _ => by rw [o.1.2.2, show u 20 0 0 0 = rr.toInt by rw [hu, up_s], hr, o.2], o.1.1⟩
  · have hxx := hx
    rcases hxx with ⟨h9, hx⟩ | ⟨h9, hx⟩
    · skip
      rcases hM with ⟨m1, hv, hb⟩ | ⟨m1, m2, hv, hb⟩ | ⟨m1, m2, hv, hb⟩
      · have o := op_er (c := 1) hI (u := u) (fun f _ => by rw [hu])
        rw [hv]; exact ⟨1, rfl, by decide, o.2.1, fun h => absurd h (by decide), o.1⟩
      · exfalso; omega
      · exfalso; omega
    · exact absurd h9 (by decide)
  · have hxx := hx
    rcases hxx with ⟨h9, hx⟩ | ⟨h9, hx⟩
    · exact absurd h9 (by decide)
    · skip
      rcases hM with ⟨m1, hv, hb⟩ | ⟨m1, m2, hv, hb⟩ | ⟨m1, m2, hv, hb⟩
      · exfalso; omega
      · have o := op_er (c := 2) hI (u := u) (fun f _ => by rw [hu])
        rw [hv]; exact ⟨2, rfl, by decide, o.2.1, fun h => absurd h (by decide), o.1⟩
      · exfalso; omega
theorem fu_throwBall {g u : St} {n a b q : Int} {r9 : Int32} (hI : INV g n) (hP : (fun (r9 : Int32) (u : St) => (r9 = iI 0 ∧ ∃ (rr : Int32) (u0 : St), (fun (r9 : Int32) (u9 : St) => r9 = iI (g 3 0 0 0) ∧ u9 = (up (up (up (svG g 0) 3 0 0 0 a) 3 0 0 1 b) 3 0 0 2 q) ∧ ((0 ≤ a ∧ a ≤ g 2 0 0 0) ∧ (1 ≤ b ∧ b ≤ 9))) rr u0 ∧ u = up u0 20 0 0 0 rr.toInt) ∨ (r9 = iI 1 ∧ u = g ∧ (fun E => E = eIA ∧ ¬ ((0 ≤ a ∧ a ≤ g 2 0 0 0) ∧ (1 ≤ b ∧ b ≤ 9))) eIA)) r9 u) : ∀ f : Nat, 14 ≤ f → f ≤ 19 → u f = g f := by
  intro f a1 b1
  rcases hP with ⟨rfl, rr, u0, hP, hu⟩ | ⟨rfl, hu, hx⟩
  · obtain ⟨hr, h0, hc1, hc2⟩ := hP
    rw [hu, up_ff (show f ≠ 20 by omega), h0, up_ff (by omega), up_ff (by omega), up_ff (by omega), svG_ff hI.1 (by omega) (by omega) (by omega)]
  · rw [hu]
set_option maxHeartbeats 4000000 in
theorem st_throwBall {g u y9 : St} {n a b q : Int} {r9 rb : Int32} (hI : INV g n) (hq : q = 0 ∨ q = 1) (hP : (fun (r9 : Int32) (u : St) => (r9 = iI 0 ∧ ∃ (rr : Int32) (u0 : St), (fun (r9 : Int32) (u9 : St) => r9 = iI (g 3 0 0 0) ∧ u9 = (up (up (up (svG g 0) 3 0 0 0 a) 3 0 0 1 b) 3 0 0 2 q) ∧ ((0 ≤ a ∧ a ≤ g 2 0 0 0) ∧ (1 ≤ b ∧ b ≤ 9))) rr u0 ∧ u = up u0 20 0 0 0 rr.toInt) ∨ (r9 = iI 1 ∧ u = g ∧ (fun E => E = eIA ∧ ¬ ((0 ≤ a ∧ a ≤ g 2 0 0 0) ∧ (1 ≤ b ∧ b ≤ 9))) eIA)) r9 u) (hM : (fun (r9 : Int32) (y9 : St) => ∃ z : Int, r9 = iI z ∧ ((¬ ((0 ≤ a ∧ a ≤ u 15 0 0 0) ∧ (1 ≤ b ∧ b ≤ 9)) ∧ y9 = er u 1 ∧ z = 0) ∨ (((0 ≤ a ∧ a ≤ u 15 0 0 0) ∧ (1 ≤ b ∧ b ≤ 9)) ∧ y9 = up (up (up (svM (t0 u)) 15 0 0 4 a) 15 0 0 5 b) 15 0 0 6 q ∧ z = u 15 0 0 4))) rb y9) : ∃ k : Int, r9 = iI k ∧ rg k ∧ y9 14 0 0 0 = k ∧ (k = 0 → y9 20 0 0 0 = rb.toInt) ∧ INV y9 (n + 60) := by
  have hf := fu_throwBall hI hP
  have k1 : g 2 0 0 0 = u 15 0 0 0 := by rw [hf 15 (by decide) (by decide)]; exact hI.2.2.2.2.1.1.1.1
  obtain ⟨b9, rfl, hM⟩ := hM
  rcases hP with ⟨rfl, rr, u0, hP, hu⟩ | ⟨rfl, hu, hx⟩
  · obtain ⟨hr, h0, hc1, hc2⟩ := hP
    rcases hM with ⟨m1, hv, hb⟩ | ⟨m1, hv, hb⟩
    · exfalso; omega
    · have o := op_throw hI hc1 hc2 hq (fun f h => by rw [hu, h0]; exact up_ff (by omega)) hv
      exact ⟨0, rfl, by decide, o.1.2.1, fun _ => by rw [o.1.2.2, show u 20 0 0 0 = rr.toInt by rw [hu, up_s], hr, o.2, hb], o.1.1⟩
  · have hxx := hx
    obtain ⟨-, hx⟩ := hxx
    rcases hM with ⟨m1, hv, hb⟩ | ⟨m1, hv, hb⟩
    · have o := op_er (c := 1) hI (u := u) (fun f _ => by rw [hu])
      rw [hv]; exact ⟨1, rfl, by decide, o.2.1, fun h => absurd h (by decide), o.1⟩
    · exfalso; omega
theorem fu_set {g u : St} {n a v : Int} {r9 : Int32} (hI : INV g n) (hP : (fun (r9 : Int32) (u : St) => (r9 = iI 0 ∧ ∃ (rr : Int32) (u0 : St), (fun (r9 : Int32) (u9 : St) => r9 = iI (g 2 0 0 a) ∧ u9 = (up (svG g 0) 2 0 0 a v) ∧ ((0 ≤ a ∧ a < 3) ∧ (lsV a ≤ v ∧ v ≤ msV a) ∧ (a = 0 → fur g 0 ≤ v))) rr u0 ∧ u = up u0 20 0 0 0 rr.toInt) ∨ (r9 = iI 1 ∧ u = g ∧ (fun E => (E = eIX ∧ ¬ (0 ≤ a ∧ a < 3)) ∨ (E = eIA ∧ (0 ≤ a ∧ a < 3) ∧ ¬ (lsV a ≤ v ∧ v ≤ msV a)) ∨ (E = eIS ∧ (0 ≤ a ∧ a < 3) ∧ (lsV a ≤ v ∧ v ≤ msV a) ∧ a = 0 ∧ v < fur g 0)) eIX) ∨ (r9 = iI 2 ∧ u = g ∧ (fun E => (E = eIX ∧ ¬ (0 ≤ a ∧ a < 3)) ∨ (E = eIA ∧ (0 ≤ a ∧ a < 3) ∧ ¬ (lsV a ≤ v ∧ v ≤ msV a)) ∨ (E = eIS ∧ (0 ≤ a ∧ a < 3) ∧ (lsV a ≤ v ∧ v ≤ msV a) ∧ a = 0 ∧ v < fur g 0)) eIA) ∨ (r9 = iI 3 ∧ u = g ∧ (fun E => (E = eIX ∧ ¬ (0 ≤ a ∧ a < 3)) ∨ (E = eIA ∧ (0 ≤ a ∧ a < 3) ∧ ¬ (lsV a ≤ v ∧ v ≤ msV a)) ∨ (E = eIS ∧ (0 ≤ a ∧ a < 3) ∧ (lsV a ≤ v ∧ v ≤ msV a) ∧ a = 0 ∧ v < fur g 0)) eIS)) r9 u) : ∀ f : Nat, 14 ≤ f → f ≤ 19 → u f = g f := by
  intro f a1 b1
  rcases hP with ⟨rfl, rr, u0, hP, hu⟩ | ⟨rfl, hu, hx⟩ | ⟨rfl, hu, hx⟩ | ⟨rfl, hu, hx⟩
  · obtain ⟨hr, h0, hc1, hc2, hc3⟩ := hP
    rw [hu, up_ff (show f ≠ 20 by omega), h0, up_ff (by omega), svG_ff hI.1 (by omega) (by omega) (by omega)]
  · rw [hu]
  · rw [hu]
  · rw [hu]
set_option maxHeartbeats 4000000 in
theorem st_set {g u y9 : St} {n a v : Int} {r9 rb : Int32} (hI : INV g n) (hP : (fun (r9 : Int32) (u : St) => (r9 = iI 0 ∧ ∃ (rr : Int32) (u0 : St), (fun (r9 : Int32) (u9 : St) => r9 = iI (g 2 0 0 a) ∧ u9 = (up (svG g 0) 2 0 0 a v) ∧ ((0 ≤ a ∧ a < 3) ∧ (lsV a ≤ v ∧ v ≤ msV a) ∧ (a = 0 → fur g 0 ≤ v))) rr u0 ∧ u = up u0 20 0 0 0 rr.toInt) ∨ (r9 = iI 1 ∧ u = g ∧ (fun E => (E = eIX ∧ ¬ (0 ≤ a ∧ a < 3)) ∨ (E = eIA ∧ (0 ≤ a ∧ a < 3) ∧ ¬ (lsV a ≤ v ∧ v ≤ msV a)) ∨ (E = eIS ∧ (0 ≤ a ∧ a < 3) ∧ (lsV a ≤ v ∧ v ≤ msV a) ∧ a = 0 ∧ v < fur g 0)) eIX) ∨ (r9 = iI 2 ∧ u = g ∧ (fun E => (E = eIX ∧ ¬ (0 ≤ a ∧ a < 3)) ∨ (E = eIA ∧ (0 ≤ a ∧ a < 3) ∧ ¬ (lsV a ≤ v ∧ v ≤ msV a)) ∨ (E = eIS ∧ (0 ≤ a ∧ a < 3) ∧ (lsV a ≤ v ∧ v ≤ msV a) ∧ a = 0 ∧ v < fur g 0)) eIA) ∨ (r9 = iI 3 ∧ u = g ∧ (fun E => (E = eIX ∧ ¬ (0 ≤ a ∧ a < 3)) ∨ (E = eIA ∧ (0 ≤ a ∧ a < 3) ∧ ¬ (lsV a ≤ v ∧ v ≤ msV a)) ∨ (E = eIS ∧ (0 ≤ a ∧ a < 3) ∧ (lsV a ≤ v ∧ v ≤ msV a) ∧ a = 0 ∧ v < fur g 0)) eIS)) r9 u) (hM : (fun (r9 : Int32) (y9 : St) => ∃ z : Int, r9 = iI z ∧ ((¬ (0 ≤ a ∧ a ≤ 2) ∧ y9 = er u 1 ∧ z = 0) ∨ ((0 ≤ a ∧ a ≤ 2) ∧ ¬ (lsV a ≤ v ∧ v ≤ msV a) ∧ y9 = er u 2 ∧ z = 0) ∨ ((0 ≤ a ∧ a ≤ 2) ∧ (lsV a ≤ v ∧ v ≤ msV a) ∧ (a = 0 ∧ ¬ furM (t0 u) ≤ v) ∧ y9 = er u 3 ∧ z = 0) ∨ ((0 ≤ a ∧ a ≤ 2) ∧ (lsV a ≤ v ∧ v ≤ msV a) ∧ ¬ (a = 0 ∧ ¬ furM (t0 u) ≤ v) ∧ y9 = up (svM (t0 u)) 15 0 0 a v ∧ z = u 15 0 0 a))) rb y9) : ∃ k : Int, r9 = iI k ∧ rg k ∧ y9 14 0 0 0 = k ∧ (k = 0 → y9 20 0 0 0 = rb.toInt) ∧ INV y9 (n + 60) := by
  have hf := fu_set hI hP
  have k1 : fur g 0 = furM (t0 u) := fur_tie (tS_u2 hI hf).1
  obtain ⟨b9, rfl, hM⟩ := hM
  rcases hP with ⟨rfl, rr, u0, hP, hu⟩ | ⟨rfl, hu, hx⟩ | ⟨rfl, hu, hx⟩ | ⟨rfl, hu, hx⟩
  · obtain ⟨hr, h0, hc1, hc2, hc3⟩ := hP
    rcases hM with ⟨m1, hv, hb⟩ | ⟨m1, m2, hv, hb⟩ | ⟨m1, m2, m3, hv, hb⟩ | ⟨m1, m2, m3, hv, hb⟩
    · exfalso; omega
    · exfalso; omega
    · exfalso; omega
    · have o := op_set hI hc1 hc2 hc3 (fun f h => by rw [hu, h0]; exact up_ff (by omega)) hv
      exact ⟨0, rfl, by decide, o.1.2.1, fun _ => by rw [o.1.2.2, show u 20 0 0 0 = rr.toInt by rw [hu, up_s], hr, o.2, hb], o.1.1⟩
  · have hxx := hx
    rcases hxx with ⟨h9, hx⟩ | ⟨h9, hx⟩ | ⟨h9, hx⟩
    · skip
      rcases hM with ⟨m1, hv, hb⟩ | ⟨m1, m2, hv, hb⟩ | ⟨m1, m2, m3, hv, hb⟩ | ⟨m1, m2, m3, hv, hb⟩
      · have o := op_er (c := 1) hI (u := u) (fun f _ => by rw [hu])
        rw [hv]; exact ⟨1, rfl, by decide, o.2.1, fun h => absurd h (by decide), o.1⟩
      · exfalso; omega
      · exfalso; omega
      · exfalso; omega
    · exact absurd h9 (by decide)
    · exact absurd h9 (by decide)
  · have hxx := hx
    rcases hxx with ⟨h9, hx⟩ | ⟨h9, hx⟩ | ⟨h9, hx⟩
    · exact absurd h9 (by decide)
    · skip
      rcases hM with ⟨m1, hv, hb⟩ | ⟨m1, m2, hv, hb⟩ | ⟨m1, m2, m3, hv, hb⟩ | ⟨m1, m2, m3, hv, hb⟩
      · exfalso; omega
      · have o := op_er (c := 2) hI (u := u) (fun f _ => by rw [hu])
        rw [hv]; exact ⟨2, rfl, by decide, o.2.1, fun h => absurd h (by decide), o.1⟩
      · exfalso; omega
      · exfalso; omega
    · exact absurd h9 (by decide)
  · have hxx := hx
    rcases hxx with ⟨h9, hx⟩ | ⟨h9, hx⟩ | ⟨h9, hx⟩
    · exact absurd h9 (by decide)
    · exact absurd h9 (by decide)
    · skip
      rcases hM with ⟨m1, hv, hb⟩ | ⟨m1, m2, hv, hb⟩ | ⟨m1, m2, m3, hv, hb⟩ | ⟨m1, m2, m3, hv, hb⟩
      · exfalso; omega
      · exfalso; omega
      · have o := op_er (c := 3) hI (u := u) (fun f _ => by rw [hu])
        rw [hv]; exact ⟨3, rfl, by decide, o.2.1, fun h => absurd h (by decide), o.1⟩
      · exfalso; omega
theorem fu_pass {g u : St} {n t : Int} {r9 : Int32} (hI : INV g n) (hP : (fun (r9 : Int32) (u : St) => (r9 = iI 0 ∧ ∃ (rr : Int32) (u0 : St), (fun (r9 : Int32) (u : St) => ∃ z : Int, r9 = iI z ∧ ((1 ≤ t ∧ t ≤ 99) ∧ g 1 0 0 0 + t ≤ 99999 ∧ trs 0 t.toNat (svG g 0) u z)) rr u0 ∧ u = up u0 20 0 0 0 rr.toInt) ∨ (r9 = iI 1 ∧ u = g ∧ (fun E => (E = eIA ∧ ¬ (1 ≤ t ∧ t ≤ 99)) ∨ (E = eIS ∧ (1 ≤ t ∧ t ≤ 99) ∧ ¬ (g 1 0 0 0 + t ≤ 99999))) eIA) ∨ (r9 = iI 2 ∧ u = g ∧ (fun E => (E = eIA ∧ ¬ (1 ≤ t ∧ t ≤ 99)) ∨ (E = eIS ∧ (1 ≤ t ∧ t ≤ 99) ∧ ¬ (g 1 0 0 0 + t ≤ 99999))) eIS)) r9 u) : ∀ f : Nat, 14 ≤ f → f ≤ 19 → u f = g f := by
  intro f a1 b1
  rcases hP with ⟨rfl, rr, u0, hP, hu⟩ | ⟨rfl, hu, hx⟩ | ⟨rfl, hu, hx⟩
  · obtain ⟨z, hr, hc1, hc2, hs⟩ := hP
    rw [hu, up_ff (show f ≠ 20 by omega), (fr_trs _ hs).2 f (by omega), svG_ff hI.1 (by omega) (by omega) (by omega)]
  · rw [hu]
  · rw [hu]
set_option maxHeartbeats 4000000 in
theorem st_pass {g u y9 : St} {n t : Int} {r9 rb : Int32} (hI : INV g n) (hP : (fun (r9 : Int32) (u : St) => (r9 = iI 0 ∧ ∃ (rr : Int32) (u0 : St), (fun (r9 : Int32) (u : St) => ∃ z : Int, r9 = iI z ∧ ((1 ≤ t ∧ t ≤ 99) ∧ g 1 0 0 0 + t ≤ 99999 ∧ trs 0 t.toNat (svG g 0) u z)) rr u0 ∧ u = up u0 20 0 0 0 rr.toInt) ∨ (r9 = iI 1 ∧ u = g ∧ (fun E => (E = eIA ∧ ¬ (1 ≤ t ∧ t ≤ 99)) ∨ (E = eIS ∧ (1 ≤ t ∧ t ≤ 99) ∧ ¬ (g 1 0 0 0 + t ≤ 99999))) eIA) ∨ (r9 = iI 2 ∧ u = g ∧ (fun E => (E = eIA ∧ ¬ (1 ≤ t ∧ t ≤ 99)) ∨ (E = eIS ∧ (1 ≤ t ∧ t ≤ 99) ∧ ¬ (g 1 0 0 0 + t ≤ 99999))) eIS)) r9 u) (hM : (fun (r9 : Int32) (y9 : St) => ∃ z : Int, r9 = iI z ∧ ((¬ (1 ≤ t ∧ t ≤ 99) ∧ y9 = er u 1 ∧ z = 0) ∨ ((1 ≤ t ∧ t ≤ 99) ∧ ¬ u 15 0 0 3 + t ≤ 99999 ∧ y9 = er u 2 ∧ z = 0) ∨ ((1 ≤ t ∧ t ≤ 99) ∧ u 15 0 0 3 + t ≤ 99999 ∧ y9 = (tuN (svM (t0 u)) t.toNat).1 ∧ z = (tuN (svM (t0 u)) t.toNat).2))) rb y9) : ∃ k : Int, r9 = iI k ∧ rg k ∧ y9 14 0 0 0 = k ∧ (k = 0 → y9 20 0 0 0 = rb.toInt) ∧ INV y9 (n + 60) := by
  have hf := fu_pass hI hP
  have k1 : g 1 0 0 0 = u 15 0 0 3 := by rw [hf 15 (by decide) (by decide)]; exact hI.2.2.2.2.1.1.2.1.1
  obtain ⟨b9, rfl, hM⟩ := hM
  rcases hP with ⟨rfl, rr, u0, hP, hu⟩ | ⟨rfl, hu, hx⟩ | ⟨rfl, hu, hx⟩
  · obtain ⟨z, hr, hc1, hc2, hs⟩ := hP
    rcases hM with ⟨m1, hv, hb⟩ | ⟨m1, m2, hv, hb⟩ | ⟨m1, m2, hv, hb⟩
    · exfalso; omega
    · exfalso; omega
    · have o := op_pass hI hc1 hc2 hs (fun f h => by rw [hu]; exact up_ff (by omega)) hv hb
      exact ⟨0, rfl, by decide, o.1.2.1, fun _ => by rw [o.1.2.2, show u 20 0 0 0 = rr.toInt by rw [hu, up_s], hr, o.2], o.1.1⟩
  · have hxx := hx
    rcases hxx with ⟨h9, hx⟩ | ⟨h9, hx⟩
    · skip
      rcases hM with ⟨m1, hv, hb⟩ | ⟨m1, m2, hv, hb⟩ | ⟨m1, m2, hv, hb⟩
      · have o := op_er (c := 1) hI (u := u) (fun f _ => by rw [hu])
        rw [hv]; exact ⟨1, rfl, by decide, o.2.1, fun h => absurd h (by decide), o.1⟩
      · exfalso; omega
      · exfalso; omega
    · exact absurd h9 (by decide)
  · have hxx := hx
    rcases hxx with ⟨h9, hx⟩ | ⟨h9, hx⟩
    · exact absurd h9 (by decide)
    · skip
      rcases hM with ⟨m1, hv, hb⟩ | ⟨m1, m2, hv, hb⟩ | ⟨m1, m2, hv, hb⟩
      · exfalso; omega
      · have o := op_er (c := 2) hI (u := u) (fun f _ => by rw [hu])
        rw [hv]; exact ⟨2, rfl, by decide, o.2.1, fun h => absurd h (by decide), o.1⟩
      · exfalso; omega
theorem fu_append {g u : St} {n a : Int} {r9 : Int32} (hI : INV g n) (hP : (fun (r9 : Int32) (u : St) => (r9 = iI 0 ∧ ∃ (rr : Int32) (u0 : St), (fun (r9 : Int32) (u9 : St) => r9 = iI (g 12 0 0 1 + 1) ∧ u9 = (up (up g 13 0 0 (g 12 0 0 1) a) 12 0 0 1 (g 12 0 0 1 + 1)) ∧ ((33 ≤ a ∧ a ≤ 126) ∧ g 12 0 0 1 < 60)) rr u0 ∧ u = up u0 20 0 0 0 rr.toInt) ∨ (r9 = iI 1 ∧ u = g ∧ (fun E => (E = eIA ∧ ¬ (33 ≤ a ∧ a ≤ 126)) ∨ (E = eIS ∧ (33 ≤ a ∧ a ≤ 126) ∧ 60 ≤ g 12 0 0 1)) eIA) ∨ (r9 = iI 2 ∧ u = g ∧ (fun E => (E = eIA ∧ ¬ (33 ≤ a ∧ a ≤ 126)) ∨ (E = eIS ∧ (33 ≤ a ∧ a ≤ 126) ∧ 60 ≤ g 12 0 0 1)) eIS)) r9 u) : ∀ f : Nat, 14 ≤ f → f ≤ 19 → u f = g f := by
  intro f a1 b1
  rcases hP with ⟨rfl, rr, u0, hP, hu⟩ | ⟨rfl, hu, hx⟩ | ⟨rfl, hu, hx⟩
  · obtain ⟨hr, h0, hc1, hc2⟩ := hP
    rw [hu, up_ff (show f ≠ 20 by omega), h0, up_ff (by omega), up_ff (by omega)]
  · rw [hu]
  · rw [hu]
set_option maxHeartbeats 4000000 in
theorem st_append {g u y9 : St} {n a : Int} {r9 rb : Int32} (hI : INV g n) (hP : (fun (r9 : Int32) (u : St) => (r9 = iI 0 ∧ ∃ (rr : Int32) (u0 : St), (fun (r9 : Int32) (u9 : St) => r9 = iI (g 12 0 0 1 + 1) ∧ u9 = (up (up g 13 0 0 (g 12 0 0 1) a) 12 0 0 1 (g 12 0 0 1 + 1)) ∧ ((33 ≤ a ∧ a ≤ 126) ∧ g 12 0 0 1 < 60)) rr u0 ∧ u = up u0 20 0 0 0 rr.toInt) ∨ (r9 = iI 1 ∧ u = g ∧ (fun E => (E = eIA ∧ ¬ (33 ≤ a ∧ a ≤ 126)) ∨ (E = eIS ∧ (33 ≤ a ∧ a ≤ 126) ∧ 60 ≤ g 12 0 0 1)) eIA) ∨ (r9 = iI 2 ∧ u = g ∧ (fun E => (E = eIA ∧ ¬ (33 ≤ a ∧ a ≤ 126)) ∨ (E = eIS ∧ (33 ≤ a ∧ a ≤ 126) ∧ 60 ≤ g 12 0 0 1)) eIS)) r9 u) (hM : (fun (r9 : Int32) (y9 : St) => ∃ z : Int, r9 = iI z ∧ ((¬ (33 ≤ a ∧ a ≤ 126) ∧ y9 = er u 1 ∧ z = 0) ∨ ((33 ≤ a ∧ a ≤ 126) ∧ ¬ u 14 0 0 7 ≠ 60 ∧ y9 = er u 2 ∧ z = 0) ∨ ((33 ≤ a ∧ a ≤ 126) ∧ u 14 0 0 7 ≠ 60 ∧ y9 = up (up (t0 u) 19 0 0 (u 14 0 0 7) a) 14 0 0 7 (u 14 0 0 7 + 1) ∧ z = u 14 0 0 7 + 1))) rb y9) : ∃ k : Int, r9 = iI k ∧ rg k ∧ y9 14 0 0 0 = k ∧ (k = 0 → y9 20 0 0 0 = rb.toInt) ∧ INV y9 (n + 60) := by
  have hf := fu_append hI hP
  have k1 : g 12 0 0 1 = u 14 0 0 7 := by rw [hf 14 (by decide) (by decide)]; exact hI.2.2.2.2.2.2.2.1
  have k2 := hI.2.2.1.1
  obtain ⟨b9, rfl, hM⟩ := hM
  rcases hP with ⟨rfl, rr, u0, hP, hu⟩ | ⟨rfl, hu, hx⟩ | ⟨rfl, hu, hx⟩
  · obtain ⟨hr, h0, hc1, hc2⟩ := hP
    rcases hM with ⟨m1, hv, hb⟩ | ⟨m1, m2, hv, hb⟩ | ⟨m1, m2, hv, hb⟩
    · exfalso; omega
    · exfalso; omega
    · have o := op_append hI hc1 hc2 (fun f h => by rw [hu, h0]; exact up_ff (by omega)) hv
      exact ⟨0, rfl, by decide, o.1.2.1, fun _ => by rw [o.1.2.2, show u 20 0 0 0 = rr.toInt by rw [hu, up_s], hr, o.2, hb], o.1.1⟩
  · have hxx := hx
    rcases hxx with ⟨h9, hx⟩ | ⟨h9, hx⟩
    · skip
      rcases hM with ⟨m1, hv, hb⟩ | ⟨m1, m2, hv, hb⟩ | ⟨m1, m2, hv, hb⟩
      · have o := op_er (c := 1) hI (u := u) (fun f _ => by rw [hu])
        rw [hv]; exact ⟨1, rfl, by decide, o.2.1, fun h => absurd h (by decide), o.1⟩
      · exfalso; omega
      · exfalso; omega
    · exact absurd h9 (by decide)
  · have hxx := hx
    rcases hxx with ⟨h9, hx⟩ | ⟨h9, hx⟩
    · exact absurd h9 (by decide)
    · skip
      rcases hM with ⟨m1, hv, hb⟩ | ⟨m1, m2, hv, hb⟩ | ⟨m1, m2, hv, hb⟩
      · exfalso; omega
      · have o := op_er (c := 2) hI (u := u) (fun f _ => by rw [hu])
        rw [hv]; exact ⟨2, rfl, by decide, o.2.1, fun h => absurd h (by decide), o.1⟩
      · exfalso; omega
theorem fu_run {g u : St} {n  : Int} {r9 : Int32} (hI : INV g n) (hP : (fun (r9 : Int32) (u : St) => (r9 = iI 0 ∧ ∃ (rr : Int32) (u0 : St), (fun (r9 : Int32) (u : St) => ∃ z : Int, r9 = iI z ∧ ((stN (g 13 0 0) (g 12 0 0 1).toNat = 9 ∨ stN (g 13 0 0) (g 12 0 0 1).toNat = 8) ∧ ∃ v, rnC 60 (svG g 0) 0 v z ∧ u = up v 12 0 0 1 0)) rr u0 ∧ u = up u0 20 0 0 0 rr.toInt) ∨ (r9 = iI 1 ∧ u = g ∧ (fun E => E = eIA ∧ ¬ (stN (g 13 0 0) (g 12 0 0 1).toNat = 9 ∨ stN (g 13 0 0) (g 12 0 0 1).toNat = 8)) eIA)) r9 u) : ∀ f : Nat, 14 ≤ f → f ≤ 19 → u f = g f := by
  intro f a1 b1
  rcases hP with ⟨rfl, rr, u0, hP, hu⟩ | ⟨rfl, hu, hx⟩
  · obtain ⟨z, hr, hc1, v0, hs, h0⟩ := hP
    rw [hu, up_ff (show f ≠ 20 by omega), h0, up_ff (by omega), (fr_rn _ hs).2 f (by omega), svG_ff hI.1 (by omega) (by omega) (by omega)]
  · rw [hu]
set_option maxHeartbeats 4000000 in
theorem st_run {g u y9 : St} {n  : Int} {r9 rb : Int32} (hI : INV g n) (hP : (fun (r9 : Int32) (u : St) => (r9 = iI 0 ∧ ∃ (rr : Int32) (u0 : St), (fun (r9 : Int32) (u : St) => ∃ z : Int, r9 = iI z ∧ ((stN (g 13 0 0) (g 12 0 0 1).toNat = 9 ∨ stN (g 13 0 0) (g 12 0 0 1).toNat = 8) ∧ ∃ v, rnC 60 (svG g 0) 0 v z ∧ u = up v 12 0 0 1 0)) rr u0 ∧ u = up u0 20 0 0 0 rr.toInt) ∨ (r9 = iI 1 ∧ u = g ∧ (fun E => E = eIA ∧ ¬ (stN (g 13 0 0) (g 12 0 0 1).toNat = 9 ∨ stN (g 13 0 0) (g 12 0 0 1).toNat = 8)) eIA)) r9 u) (hM : (fun (r9 : Int32) (y9 : St) => ∃ z : Int, r9 = iI z ∧ ((¬ (fe 61 (up (t0 u) 14 0 0 8 0)).2 = -1 ∧ y9 = up (fe 61 (up (t0 u) 14 0 0 8 0)).1 14 0 0 0 1 ∧ z = 0) ∨ ((fe 61 (up (t0 u) 14 0 0 8 0)).2 = -1 ∧ y9 = up (rnM 61 (rn0 u)).1 14 0 0 7 0 ∧ z = (rnM 61 (rn0 u)).2))) rb y9) : ∃ k : Int, r9 = iI k ∧ rg k ∧ y9 14 0 0 0 = k ∧ (k = 0 → y9 20 0 0 0 = rb.toInt) ∧ INV y9 (n + 60) := by
  have hf := fu_run hI hP
  have k1 := acc_S hI hf
  obtain ⟨b9, rfl, hM⟩ := hM
  rcases hP with ⟨rfl, rr, u0, hP, hu⟩ | ⟨rfl, hu, hx⟩
  · obtain ⟨z, hr, hc1, v0, hs, h0⟩ := hP
    rcases hM with ⟨m1, hv, hb⟩ | ⟨m1, hv, hb⟩
    · exact absurd (k1.mp hc1) m1
    · have o := op_run hI hc1 hs (fun f h => by rw [hu, h0]; exact up_ff (by omega)) hv hb
      exact ⟨0, rfl, by decide, o.1.2.1, fun _ => by rw [o.1.2.2, show u 20 0 0 0 = rr.toInt by rw [hu, up_s], hr, o.2], o.1.1⟩
  · have hxx := hx
    obtain ⟨-, hx⟩ := hxx
    rcases hM with ⟨m1, hv, hb⟩ | ⟨m1, hv, hb⟩
    · have o := op_erR hI (u := u) (fun f _ => by rw [hu])
      rw [hv]; exact ⟨1, rfl, by decide, o.2, fun h => absurd h (by decide), o.1⟩
    · exact absurd (k1.mpr m1) hx
theorem fu_keep {g u : St} {n a : Int} {r9 : Int32} (hI : INV g n) (hP : (fun (r9 : Int32) (u : St) => (r9 = iI 0 ∧ ∃ (rr : Int32) (u0 : St), (fun (r9 : Int32) (u9 : St) => r9 = iI (g 1 0 0 0) ∧ u9 = (up (cpE g (1 + a) 0 (g 1 0 0 2).toNat) 11 0 0 a 1) ∧ (0 ≤ a ∧ a ≤ 1)) rr u0 ∧ u = up u0 20 0 0 0 rr.toInt) ∨ (r9 = iI 1 ∧ u = g ∧ (fun E => E = eIA ∧ ¬ (0 ≤ a ∧ a ≤ 1)) eIA)) r9 u) : ∀ f : Nat, 14 ≤ f → f ≤ 19 → u f = g f := by
  intro f a1 b1
  rcases hP with ⟨rfl, rr, u0, hP, hu⟩ | ⟨rfl, hu, hx⟩
  · obtain ⟨hr, h0, hc1⟩ := hP
    rw [hu, up_ff (show f ≠ 20 by omega), h0, up_ff (by omega), cpE_f _ _ _ (by omega)]
  · rw [hu]
set_option maxHeartbeats 4000000 in
theorem st_keep {g u y9 : St} {n a : Int} {r9 rb : Int32} (hI : INV g n) (hP : (fun (r9 : Int32) (u : St) => (r9 = iI 0 ∧ ∃ (rr : Int32) (u0 : St), (fun (r9 : Int32) (u9 : St) => r9 = iI (g 1 0 0 0) ∧ u9 = (up (cpE g (1 + a) 0 (g 1 0 0 2).toNat) 11 0 0 a 1) ∧ (0 ≤ a ∧ a ≤ 1)) rr u0 ∧ u = up u0 20 0 0 0 rr.toInt) ∨ (r9 = iI 1 ∧ u = g ∧ (fun E => E = eIA ∧ ¬ (0 ≤ a ∧ a ≤ 1)) eIA)) r9 u) (hM : (fun (r9 : Int32) (y9 : St) => ∃ z : Int, r9 = iI z ∧ ((¬ (0 ≤ a ∧ a ≤ 1) ∧ y9 = er u 1 ∧ z = 0) ∨ ((0 ≤ a ∧ a ≤ 1) ∧ y9 = up (ksM (t0 u) a 154) 18 0 0 a 1 ∧ z = u 15 0 0 3))) rb y9) : ∃ k : Int, r9 = iI k ∧ rg k ∧ y9 14 0 0 0 = k ∧ (k = 0 → y9 20 0 0 0 = rb.toInt) ∧ INV y9 (n + 60) := by
  have hf := fu_keep hI hP
  obtain ⟨b9, rfl, hM⟩ := hM
  rcases hP with ⟨rfl, rr, u0, hP, hu⟩ | ⟨rfl, hu, hx⟩
  · obtain ⟨hr, h0, hc1⟩ := hP
    rcases hM with ⟨m1, hv, hb⟩ | ⟨m1, hv, hb⟩
    · exfalso; omega
    · have o := op_keep hI hc1 (fun f h => by rw [hu, h0]; exact up_ff (by omega)) hv
      exact ⟨0, rfl, by decide, o.1.2.1, fun _ => by rw [o.1.2.2, show u 20 0 0 0 = rr.toInt by rw [hu, up_s], hr, o.2, hb], o.1.1⟩
  · have hxx := hx
    obtain ⟨-, hx⟩ := hxx
    rcases hM with ⟨m1, hv, hb⟩ | ⟨m1, hv, hb⟩
    · have o := op_er (c := 1) hI (u := u) (fun f _ => by rw [hu])
      rw [hv]; exact ⟨1, rfl, by decide, o.2.1, fun h => absurd h (by decide), o.1⟩
    · exfalso; omega
theorem fu_goBack {g u : St} {n a : Int} {r9 : Int32} (hI : INV g n) (hP : (fun (r9 : Int32) (u : St) => (r9 = iI 0 ∧ ∃ (rr : Int32) (u0 : St), (fun (r9 : Int32) (u9 : St) => r9 = iI (g 1 (1 + a) 0 0) ∧ u9 = (cpE (svG g 0) 0 (1 + a) (svG g 0 1 (1 + a) 0 2).toNat) ∧ ((0 ≤ a ∧ a ≤ 1) ∧ g 11 0 0 a = 1)) rr u0 ∧ u = up u0 20 0 0 0 rr.toInt) ∨ (r9 = iI 1 ∧ u = g ∧ (fun E => (E = eIA ∧ ¬ (0 ≤ a ∧ a ≤ 1)) ∨ (E = eIS ∧ (0 ≤ a ∧ a ≤ 1) ∧ g 11 0 0 a = 0)) eIA) ∨ (r9 = iI 2 ∧ u = g ∧ (fun E => (E = eIA ∧ ¬ (0 ≤ a ∧ a ≤ 1)) ∨ (E = eIS ∧ (0 ≤ a ∧ a ≤ 1) ∧ g 11 0 0 a = 0)) eIS)) r9 u) : ∀ f : Nat, 14 ≤ f → f ≤ 19 → u f = g f := by
  intro f a1 b1
  rcases hP with ⟨rfl, rr, u0, hP, hu⟩ | ⟨rfl, hu, hx⟩ | ⟨rfl, hu, hx⟩
  · obtain ⟨hr, h0, hc1, hc2⟩ := hP
    rw [hu, up_ff (show f ≠ 20 by omega), h0, cpE_f _ _ _ (by omega), svG_ff hI.1 (by omega) (by omega) (by omega)]
  · rw [hu]
  · rw [hu]
set_option maxHeartbeats 4000000 in
theorem st_goBack {g u y9 : St} {n a : Int} {r9 rb : Int32} (hI : INV g n) (hP : (fun (r9 : Int32) (u : St) => (r9 = iI 0 ∧ ∃ (rr : Int32) (u0 : St), (fun (r9 : Int32) (u9 : St) => r9 = iI (g 1 (1 + a) 0 0) ∧ u9 = (cpE (svG g 0) 0 (1 + a) (svG g 0 1 (1 + a) 0 2).toNat) ∧ ((0 ≤ a ∧ a ≤ 1) ∧ g 11 0 0 a = 1)) rr u0 ∧ u = up u0 20 0 0 0 rr.toInt) ∨ (r9 = iI 1 ∧ u = g ∧ (fun E => (E = eIA ∧ ¬ (0 ≤ a ∧ a ≤ 1)) ∨ (E = eIS ∧ (0 ≤ a ∧ a ≤ 1) ∧ g 11 0 0 a = 0)) eIA) ∨ (r9 = iI 2 ∧ u = g ∧ (fun E => (E = eIA ∧ ¬ (0 ≤ a ∧ a ≤ 1)) ∨ (E = eIS ∧ (0 ≤ a ∧ a ≤ 1) ∧ g 11 0 0 a = 0)) eIS)) r9 u) (hM : (fun (r9 : Int32) (y9 : St) => ∃ z : Int, r9 = iI z ∧ ((¬ (0 ≤ a ∧ a ≤ 1) ∧ y9 = er u 1 ∧ z = 0) ∨ ((0 ≤ a ∧ a ≤ 1) ∧ ¬ u 18 0 0 a ≠ 0 ∧ y9 = er u 2 ∧ z = 0) ∨ ((0 ≤ a ∧ a ≤ 1) ∧ u 18 0 0 a ≠ 0 ∧ y9 = gbM (svM (t0 u)) 17 (154 * a) 154 ∧ z = u 17 0 0 (154 * a + 3)))) rb y9) : ∃ k : Int, r9 = iI k ∧ rg k ∧ y9 14 0 0 0 = k ∧ (k = 0 → y9 20 0 0 0 = rb.toInt) ∧ INV y9 (n + 60) := by
  have hf := fu_goBack hI hP
  have k1 : 0 ≤ a → a ≤ 1 → g 11 0 0 a = u 18 0 0 a := fun x y => by rw [hf 18 (by decide) (by decide)]; exact (hI.2.2.2.2.2.2.1 a x (by omega)).1
  obtain ⟨b9, rfl, hM⟩ := hM
  rcases hP with ⟨rfl, rr, u0, hP, hu⟩ | ⟨rfl, hu, hx⟩ | ⟨rfl, hu, hx⟩
  · obtain ⟨hr, h0, hc1, hc2⟩ := hP
    rcases hM with ⟨m1, hv, hb⟩ | ⟨m1, m2, hv, hb⟩ | ⟨m1, m2, hv, hb⟩
    · exfalso; first | omega | (have k2 := k1 hc1.1 hc1.2; omega)
    · exfalso; first | omega | (have k2 := k1 hc1.1 hc1.2; omega)
    · have o := op_back hI hc1 hc2 (fun f h => by rw [hu, h0]; exact up_ff (by omega)) hv
      exact ⟨0, rfl, by decide, o.1.2.1, fun _ => by rw [o.1.2.2, show u 20 0 0 0 = rr.toInt by rw [hu, up_s], hr, o.2, hb], o.1.1⟩
  · have hxx := hx
    rcases hxx with ⟨h9, hx⟩ | ⟨h9, hx⟩
    · skip
      rcases hM with ⟨m1, hv, hb⟩ | ⟨m1, m2, hv, hb⟩ | ⟨m1, m2, hv, hb⟩
      · have o := op_er (c := 1) hI (u := u) (fun f _ => by rw [hu])
        rw [hv]; exact ⟨1, rfl, by decide, o.2.1, fun h => absurd h (by decide), o.1⟩
      · exfalso; first | omega | (have k2 := k1 (by omega) (by omega); omega)
      · exfalso; first | omega | (have k2 := k1 (by omega) (by omega); omega)
    · exact absurd h9 (by decide)
  · have hxx := hx
    rcases hxx with ⟨h9, hx⟩ | ⟨h9, hx⟩
    · exact absurd h9 (by decide)
    · skip
      rcases hM with ⟨m1, hv, hb⟩ | ⟨m1, m2, hv, hb⟩ | ⟨m1, m2, hv, hb⟩
      · exfalso; first | omega | (have k2 := k1 (by omega) (by omega); omega)
      · have o := op_er (c := 2) hI (u := u) (fun f _ => by rw [hu])
        rw [hv]; exact ⟨2, rfl, by decide, o.2.1, fun h => absurd h (by decide), o.1⟩
      · exfalso; first | omega | (have k2 := k1 (by omega) (by omega); omega)
theorem fu_undo {g u : St} {n  : Int} {r9 : Int32} (hI : INV g n) (hP : (fun (r9 : Int32) (u : St) => (r9 = iI 0 ∧ ∃ (rr : Int32) (u0 : St), (fun (r9 : Int32) (u9 : St) => r9 = iI (g 8 0 0 1 - 1) ∧ u9 = (rsG g 0) ∧ (0 < g 8 0 0 1)) rr u0 ∧ u = up u0 20 0 0 0 rr.toInt) ∨ (r9 = iI 1 ∧ u = g ∧ (fun E => E = eIS ∧ ¬ (0 < g 8 0 0 1)) eIS)) r9 u) : ∀ f : Nat, 14 ≤ f → f ≤ 19 → u f = g f := by
  intro f a1 b1
  rcases hP with ⟨rfl, rr, u0, hP, hu⟩ | ⟨rfl, hu, hx⟩
  · obtain ⟨hr, h0, hc1⟩ := hP
    rw [hu, up_ff (show f ≠ 20 by omega), h0, rs_f (by omega)]
  · rw [hu]
set_option maxHeartbeats 4000000 in
theorem st_undo {g u y9 : St} {n  : Int} {r9 rb : Int32} (hI : INV g n) (hP : (fun (r9 : Int32) (u : St) => (r9 = iI 0 ∧ ∃ (rr : Int32) (u0 : St), (fun (r9 : Int32) (u9 : St) => r9 = iI (g 8 0 0 1 - 1) ∧ u9 = (rsG g 0) ∧ (0 < g 8 0 0 1)) rr u0 ∧ u = up u0 20 0 0 0 rr.toInt) ∨ (r9 = iI 1 ∧ u = g ∧ (fun E => E = eIS ∧ ¬ (0 < g 8 0 0 1)) eIS)) r9 u) (hM : (fun (r9 : Int32) (y9 : St) => ∃ z : Int, r9 = iI z ∧ ((¬ u 14 0 0 3 ≠ 0 ∧ y9 = er u 1 ∧ z = 0) ∨ (u 14 0 0 3 ≠ 0 ∧ y9 = gbM (up (t0 u) 14 0 0 3 (u 14 0 0 3 - 1)) 16 ((u 14 0 0 3 - 1) * 154) 154 ∧ z = u 14 0 0 3 - 1))) rb y9) : ∃ k : Int, r9 = iI k ∧ rg k ∧ y9 14 0 0 0 = k ∧ (k = 0 → y9 20 0 0 0 = rb.toInt) ∧ INV y9 (n + 60) := by
  have hf := fu_undo hI hP
  have k1 : g 8 0 0 1 = u 14 0 0 3 := by rw [hf 14 (by decide) (by decide)]; exact hI.2.2.2.2.2.1.1
  have k2 := hI.1.1
  obtain ⟨b9, rfl, hM⟩ := hM
  rcases hP with ⟨rfl, rr, u0, hP, hu⟩ | ⟨rfl, hu, hx⟩
  · obtain ⟨hr, h0, hc1⟩ := hP
    rcases hM with ⟨m1, hv, hb⟩ | ⟨m1, hv, hb⟩
    · exfalso; omega
    · have o := op_undo hI hc1 (fun f h => by rw [hu, h0]; exact up_ff (by omega)) hv
      exact ⟨0, rfl, by decide, o.1.2.1, fun _ => by rw [o.1.2.2, show u 20 0 0 0 = rr.toInt by rw [hu, up_s], hr, o.2, hb], o.1.1⟩
  · have hxx := hx
    obtain ⟨-, hx⟩ := hxx
    rcases hM with ⟨m1, hv, hb⟩ | ⟨m1, hv, hb⟩
    · have o := op_er (c := 1) hI (u := u) (fun f _ => by rw [hu])
      rw [hv]; exact ⟨1, rfl, by decide, o.2.1, fun h => absurd h (by decide), o.1⟩
    · exfalso; omega
theorem fu_playerOf {g u : St} {n p w : Int} {r9 : Int32} (hI : INV g n) (hP : (fun (r9 : Int32) (u : St) => (r9 = iI 0 ∧ ∃ (rr : Int32) (u0 : St), (fun (r9 : Int32) (u9 : St) => r9 = iI (plN g 0 p w) ∧ u9 = g ∧ ((0 ≤ p ∧ p < 4) ∧ (0 ≤ w ∧ w ≤ 6))) rr u0 ∧ u = up u0 20 0 0 0 rr.toInt) ∨ (r9 = iI 1 ∧ u = g ∧ (fun E => (E = eIX ∧ ¬ (0 ≤ p ∧ p < 4)) ∨ (E = eIA ∧ (0 ≤ p ∧ p < 4) ∧ ¬ (0 ≤ w ∧ w ≤ 6))) eIX) ∨ (r9 = iI 2 ∧ u = g ∧ (fun E => (E = eIX ∧ ¬ (0 ≤ p ∧ p < 4)) ∨ (E = eIA ∧ (0 ≤ p ∧ p < 4) ∧ ¬ (0 ≤ w ∧ w ≤ 6))) eIA)) r9 u) : ∀ f : Nat, 14 ≤ f → f ≤ 19 → u f = g f := by
  intro f a1 b1
  rcases hP with ⟨rfl, rr, u0, hP, hu⟩ | ⟨rfl, hu, hx⟩ | ⟨rfl, hu, hx⟩
  · obtain ⟨hr, h0, hc1, hc2⟩ := hP
    rw [hu, up_ff (show f ≠ 20 by omega), h0]
  · rw [hu]
  · rw [hu]
set_option maxHeartbeats 4000000 in
theorem st_playerOf {g u y9 : St} {n p w : Int} {r9 rb : Int32} (hI : INV g n) (hP : (fun (r9 : Int32) (u : St) => (r9 = iI 0 ∧ ∃ (rr : Int32) (u0 : St), (fun (r9 : Int32) (u9 : St) => r9 = iI (plN g 0 p w) ∧ u9 = g ∧ ((0 ≤ p ∧ p < 4) ∧ (0 ≤ w ∧ w ≤ 6))) rr u0 ∧ u = up u0 20 0 0 0 rr.toInt) ∨ (r9 = iI 1 ∧ u = g ∧ (fun E => (E = eIX ∧ ¬ (0 ≤ p ∧ p < 4)) ∨ (E = eIA ∧ (0 ≤ p ∧ p < 4) ∧ ¬ (0 ≤ w ∧ w ≤ 6))) eIX) ∨ (r9 = iI 2 ∧ u = g ∧ (fun E => (E = eIX ∧ ¬ (0 ≤ p ∧ p < 4)) ∨ (E = eIA ∧ (0 ≤ p ∧ p < 4) ∧ ¬ (0 ≤ w ∧ w ≤ 6))) eIA)) r9 u) (hM : (fun (r9 : Int32) (y9 : St) => ∃ z : Int, r9 = iI z ∧ ((¬ (0 ≤ p ∧ p ≤ 3) ∧ y9 = er u 1 ∧ z = 0) ∨ ((0 ≤ p ∧ p ≤ 3) ∧ ¬ (0 ≤ w ∧ w ≤ 6) ∧ y9 = er u 2 ∧ z = 0) ∨ ((0 ≤ p ∧ p ≤ 3) ∧ (0 ≤ w ∧ w ≤ 6) ∧ y9 = t0 u ∧ z = mpl (t0 u) p w))) rb y9) : ∃ k : Int, r9 = iI k ∧ rg k ∧ y9 14 0 0 0 = k ∧ (k = 0 → y9 20 0 0 0 = rb.toInt) ∧ INV y9 (n + 60) := by
  have hf := fu_playerOf hI hP
  obtain ⟨b9, rfl, hM⟩ := hM
  rcases hP with ⟨rfl, rr, u0, hP, hu⟩ | ⟨rfl, hu, hx⟩ | ⟨rfl, hu, hx⟩
  · obtain ⟨hr, h0, hc1, hc2⟩ := hP
    rcases hM with ⟨m1, hv, hb⟩ | ⟨m1, m2, hv, hb⟩ | ⟨m1, m2, hv, hb⟩
    · exfalso; omega
    · exfalso; omega
    · have o := op_player hI hc1 hc2 (fun f h => by rw [hu, h0]; exact up_ff (by omega)) hv hb
      exact ⟨0, rfl, by decide, o.1.2.1, fun _ => by rw [o.1.2.2, show u 20 0 0 0 = rr.toInt by rw [hu, up_s], hr, o.2], o.1.1⟩
  · have hxx := hx
    rcases hxx with ⟨h9, hx⟩ | ⟨h9, hx⟩
    · skip
      rcases hM with ⟨m1, hv, hb⟩ | ⟨m1, m2, hv, hb⟩ | ⟨m1, m2, hv, hb⟩
      · have o := op_er (c := 1) hI (u := u) (fun f _ => by rw [hu])
        rw [hv]; exact ⟨1, rfl, by decide, o.2.1, fun h => absurd h (by decide), o.1⟩
      · exfalso; omega
      · exfalso; omega
    · exact absurd h9 (by decide)
  · have hxx := hx
    rcases hxx with ⟨h9, hx⟩ | ⟨h9, hx⟩
    · exact absurd h9 (by decide)
    · skip
      rcases hM with ⟨m1, hv, hb⟩ | ⟨m1, m2, hv, hb⟩ | ⟨m1, m2, hv, hb⟩
      · exfalso; omega
      · have o := op_er (c := 2) hI (u := u) (fun f _ => by rw [hu])
        rw [hv]; exact ⟨2, rfl, by decide, o.2.1, fun h => absurd h (by decide), o.1⟩
      · exfalso; omega
theorem fu_echoOf {g u : St} {n r w : Int} {r9 : Int32} (hI : INV g n) (hP : (fun (r9 : Int32) (u : St) => (r9 = iI 0 ∧ ∃ (rr : Int32) (u0 : St), (fun (r9 : Int32) (u9 : St) => r9 = iI (ecN g 0 r w) ∧ u9 = g ∧ (0 ≤ r ∧ (0 ≤ w ∧ w ≤ 5))) rr u0 ∧ u = up u0 20 0 0 0 rr.toInt) ∨ (r9 = iI 1 ∧ u = g ∧ (fun E => E = eIA ∧ ¬ (0 ≤ r ∧ (0 ≤ w ∧ w ≤ 5))) eIA)) r9 u) : ∀ f : Nat, 14 ≤ f → f ≤ 19 → u f = g f := by
  intro f a1 b1
  rcases hP with ⟨rfl, rr, u0, hP, hu⟩ | ⟨rfl, hu, hx⟩
  · obtain ⟨hr, h0, hc1, hc2⟩ := hP
    rw [hu, up_ff (show f ≠ 20 by omega), h0]
  · rw [hu]
set_option maxHeartbeats 4000000 in
theorem st_echoOf {g u y9 : St} {n r w : Int} {r9 rb : Int32} (hI : INV g n) (hP : (fun (r9 : Int32) (u : St) => (r9 = iI 0 ∧ ∃ (rr : Int32) (u0 : St), (fun (r9 : Int32) (u9 : St) => r9 = iI (ecN g 0 r w) ∧ u9 = g ∧ (0 ≤ r ∧ (0 ≤ w ∧ w ≤ 5))) rr u0 ∧ u = up u0 20 0 0 0 rr.toInt) ∨ (r9 = iI 1 ∧ u = g ∧ (fun E => E = eIA ∧ ¬ (0 ≤ r ∧ (0 ≤ w ∧ w ≤ 5))) eIA)) r9 u) (hM : (fun (r9 : Int32) (y9 : St) => ∃ z : Int, r9 = iI z ∧ ((¬ (0 ≤ r ∧ (0 ≤ w ∧ w ≤ 5)) ∧ y9 = er u 1 ∧ z = 0) ∨ ((0 ≤ r ∧ (0 ≤ w ∧ w ≤ 5)) ∧ y9 = t0 u ∧ z = mEt (t0 u) r w))) rb y9) : ∃ k : Int, r9 = iI k ∧ rg k ∧ y9 14 0 0 0 = k ∧ (k = 0 → y9 20 0 0 0 = rb.toInt) ∧ INV y9 (n + 60) := by
  have hf := fu_echoOf hI hP
  obtain ⟨b9, rfl, hM⟩ := hM
  rcases hP with ⟨rfl, rr, u0, hP, hu⟩ | ⟨rfl, hu, hx⟩
  · obtain ⟨hr, h0, hc1, hc2⟩ := hP
    rcases hM with ⟨m1, hv, hb⟩ | ⟨m1, hv, hb⟩
    · exfalso; omega
    · have o := op_echo hI hc1 hc2 (fun f h => by rw [hu, h0]; exact up_ff (by omega)) hv hb
      exact ⟨0, rfl, by decide, o.1.2.1, fun _ => by rw [o.1.2.2, show u 20 0 0 0 = rr.toInt by rw [hu, up_s], hr, o.2], o.1.1⟩
  · have hxx := hx
    obtain ⟨-, hx⟩ := hxx
    rcases hM with ⟨m1, hv, hb⟩ | ⟨m1, hv, hb⟩
    · have o := op_er (c := 1) hI (u := u) (fun f _ => by rw [hu])
      rw [hv]; exact ⟨1, rfl, by decide, o.2.1, fun h => absurd h (by decide), o.1⟩
    · exfalso; omega
theorem fu_count {g u : St} {n w : Int} {r9 : Int32} (hI : INV g n) (hP : (fun (r9 : Int32) (u : St) => (r9 = iI 0 ∧ ∃ (rr : Int32) (u0 : St), (fun (r9 : Int32) (u9 : St) => r9 = iI (ctN g w) ∧ u9 = g ∧ (0 ≤ w ∧ w ≤ 11)) rr u0 ∧ u = up u0 20 0 0 0 rr.toInt) ∨ (r9 = iI 1 ∧ u = g ∧ (fun E => E = eIA ∧ ¬ (0 ≤ w ∧ w ≤ 11)) eIA)) r9 u) : ∀ f : Nat, 14 ≤ f → f ≤ 19 → u f = g f := by
  intro f a1 b1
  rcases hP with ⟨rfl, rr, u0, hP, hu⟩ | ⟨rfl, hu, hx⟩
  · obtain ⟨hr, h0, hc1⟩ := hP
    rw [hu, up_ff (show f ≠ 20 by omega), h0]
  · rw [hu]
set_option maxHeartbeats 4000000 in
theorem st_count {g u y9 : St} {n w : Int} {r9 rb : Int32} (hI : INV g n) (hP : (fun (r9 : Int32) (u : St) => (r9 = iI 0 ∧ ∃ (rr : Int32) (u0 : St), (fun (r9 : Int32) (u9 : St) => r9 = iI (ctN g w) ∧ u9 = g ∧ (0 ≤ w ∧ w ≤ 11)) rr u0 ∧ u = up u0 20 0 0 0 rr.toInt) ∨ (r9 = iI 1 ∧ u = g ∧ (fun E => E = eIA ∧ ¬ (0 ≤ w ∧ w ≤ 11)) eIA)) r9 u) (hM : (fun (r9 : Int32) (y9 : St) => ∃ z : Int, r9 = iI z ∧ ((¬ (0 ≤ w ∧ w ≤ 11) ∧ y9 = er u 1 ∧ z = 0) ∨ ((0 ≤ w ∧ w ≤ 11) ∧ y9 = t0 u ∧ z = mCt (t0 u) w))) rb y9) : ∃ k : Int, r9 = iI k ∧ rg k ∧ y9 14 0 0 0 = k ∧ (k = 0 → y9 20 0 0 0 = rb.toInt) ∧ INV y9 (n + 60) := by
  have hf := fu_count hI hP
  obtain ⟨b9, rfl, hM⟩ := hM
  rcases hP with ⟨rfl, rr, u0, hP, hu⟩ | ⟨rfl, hu, hx⟩
  · obtain ⟨hr, h0, hc1⟩ := hP
    rcases hM with ⟨m1, hv, hb⟩ | ⟨m1, hv, hb⟩
    · exfalso; omega
    · have o := op_count hI hc1 (fun f h => by rw [hu, h0]; exact up_ff (by omega)) hv hb
      exact ⟨0, rfl, by decide, o.1.2.1, fun _ => by rw [o.1.2.2, show u 20 0 0 0 = rr.toInt by rw [hu, up_s], hr, o.2], o.1.1⟩
  · have hxx := hx
    obtain ⟨-, hx⟩ := hxx
    rcases hM with ⟨m1, hv, hb⟩ | ⟨m1, hv, hb⟩
    · have o := op_er (c := 1) hI (u := u) (fun f _ => by rw [hu])
      rw [hv]; exact ⟨1, rfl, by decide, o.2.1, fun h => absurd h (by decide), o.1⟩
    · exfalso; omega
theorem fu_setting {g u : St} {n a : Int} {r9 : Int32} (hI : INV g n) (hP : (fun (r9 : Int32) (u : St) => (r9 = iI 0 ∧ ∃ (rr : Int32) (u0 : St), (fun (r9 : Int32) (u9 : St) => r9 = iI (g 2 0 0 a) ∧ u9 = g ∧ (0 ≤ a ∧ a < 3)) rr u0 ∧ u = up u0 20 0 0 0 rr.toInt) ∨ (r9 = iI 1 ∧ u = g ∧ (fun E => E = eIX ∧ ¬ (0 ≤ a ∧ a < 3)) eIX)) r9 u) : ∀ f : Nat, 14 ≤ f → f ≤ 19 → u f = g f := by
  intro f a1 b1
  rcases hP with ⟨rfl, rr, u0, hP, hu⟩ | ⟨rfl, hu, hx⟩
  · obtain ⟨hr, h0, hc1⟩ := hP
    rw [hu, up_ff (show f ≠ 20 by omega), h0]
  · rw [hu]
set_option maxHeartbeats 4000000 in
theorem st_setting {g u y9 : St} {n a : Int} {r9 rb : Int32} (hI : INV g n) (hP : (fun (r9 : Int32) (u : St) => (r9 = iI 0 ∧ ∃ (rr : Int32) (u0 : St), (fun (r9 : Int32) (u9 : St) => r9 = iI (g 2 0 0 a) ∧ u9 = g ∧ (0 ≤ a ∧ a < 3)) rr u0 ∧ u = up u0 20 0 0 0 rr.toInt) ∨ (r9 = iI 1 ∧ u = g ∧ (fun E => E = eIX ∧ ¬ (0 ≤ a ∧ a < 3)) eIX)) r9 u) (hM : (fun (r9 : Int32) (y9 : St) => ∃ z : Int, r9 = iI z ∧ ((¬ (0 ≤ a ∧ a ≤ 2) ∧ y9 = er u 1 ∧ z = 0) ∨ ((0 ≤ a ∧ a ≤ 2) ∧ y9 = t0 u ∧ z = u 15 0 0 a))) rb y9) : ∃ k : Int, r9 = iI k ∧ rg k ∧ y9 14 0 0 0 = k ∧ (k = 0 → y9 20 0 0 0 = rb.toInt) ∧ INV y9 (n + 60) := by
  have hf := fu_setting hI hP
  obtain ⟨b9, rfl, hM⟩ := hM
  rcases hP with ⟨rfl, rr, u0, hP, hu⟩ | ⟨rfl, hu, hx⟩
  · obtain ⟨hr, h0, hc1⟩ := hP
    rcases hM with ⟨m1, hv, hb⟩ | ⟨m1, hv, hb⟩
    · exfalso; omega
    · have o := op_setting hI hc1 (fun f h => by rw [hu, h0]; exact up_ff (by omega)) hv hb
      exact ⟨0, rfl, by decide, o.1.2.1, fun _ => by rw [o.1.2.2, show u 20 0 0 0 = rr.toInt by rw [hu, up_s], hr, o.2], o.1.1⟩
  · have hxx := hx
    obtain ⟨-, hx⟩ := hxx
    rcases hM with ⟨m1, hv, hb⟩ | ⟨m1, hv, hb⟩
    · have o := op_er (c := 1) hI (u := u) (fun f _ => by rw [hu])
      rw [hv]; exact ⟨1, rfl, by decide, o.2.1, fun h => absurd h (by decide), o.1⟩
    · exfalso; omega
theorem fu_ballIn {g u : St} {n t w : Int} {r9 : Int32} (hI : INV g n) (hP : (fun (r9 : Int32) (u : St) => (r9 = iI 0 ∧ ∃ (rr : Int32) (u0 : St), (fun (r9 : Int32) (u9 : St) => r9 = iI (bnN g t w) ∧ u9 = (bnG g t w) ∧ ((0 ≤ t ∧ t ≤ 99) ∧ (0 ≤ w ∧ w ≤ 2))) rr u0 ∧ u = up u0 20 0 0 0 rr.toInt) ∨ (r9 = iI 1 ∧ u = g ∧ (fun E => E = eIA ∧ ¬ ((0 ≤ t ∧ t ≤ 99) ∧ (0 ≤ w ∧ w ≤ 2))) eIA)) r9 u) : ∀ f : Nat, 14 ≤ f → f ≤ 19 → u f = g f := by
  intro f a1 b1
  rcases hP with ⟨rfl, rr, u0, hP, hu⟩ | ⟨rfl, hu, hx⟩
  · obtain ⟨hr, h0, hc1, hc2⟩ := hP
    rw [hu, up_ff (show f ≠ 20 by omega), h0, bnG_ff (by omega)]
  · rw [hu]
set_option maxHeartbeats 4000000 in
theorem st_ballIn {g u y9 : St} {n t w : Int} {r9 rb : Int32} (hI : INV g n) (hP : (fun (r9 : Int32) (u : St) => (r9 = iI 0 ∧ ∃ (rr : Int32) (u0 : St), (fun (r9 : Int32) (u9 : St) => r9 = iI (bnN g t w) ∧ u9 = (bnG g t w) ∧ ((0 ≤ t ∧ t ≤ 99) ∧ (0 ≤ w ∧ w ≤ 2))) rr u0 ∧ u = up u0 20 0 0 0 rr.toInt) ∨ (r9 = iI 1 ∧ u = g ∧ (fun E => E = eIA ∧ ¬ ((0 ≤ t ∧ t ≤ 99) ∧ (0 ≤ w ∧ w ≤ 2))) eIA)) r9 u) (hM : (fun (r9 : Int32) (y9 : St) => ∃ z : Int, r9 = iI z ∧ ((¬ ((0 ≤ t ∧ t ≤ 99) ∧ (0 ≤ w ∧ w ≤ 2)) ∧ y9 = er u 1 ∧ z = 0) ∨ (((0 ≤ t ∧ t ≤ 99) ∧ (0 ≤ w ∧ w ≤ 2)) ∧ y9 = mbM (t0 u) t ∧ z = mbA (t0 u) t w))) rb y9) : ∃ k : Int, r9 = iI k ∧ rg k ∧ y9 14 0 0 0 = k ∧ (k = 0 → y9 20 0 0 0 = rb.toInt) ∧ INV y9 (n + 60) := by
  have hf := fu_ballIn hI hP
  obtain ⟨b9, rfl, hM⟩ := hM
  rcases hP with ⟨rfl, rr, u0, hP, hu⟩ | ⟨rfl, hu, hx⟩
  · obtain ⟨hr, h0, hc1, hc2⟩ := hP
    rcases hM with ⟨m1, hv, hb⟩ | ⟨m1, hv, hb⟩
    · exfalso; omega
    · have o := op_ball hI hc2 (fun f h => by rw [hu, h0]; exact up_ff (by omega)) hv hb
      exact ⟨0, rfl, by decide, o.1.2.1, fun _ => by rw [o.1.2.2, show u 20 0 0 0 = rr.toInt by rw [hu, up_s], hr, o.2], o.1.1⟩
  · have hxx := hx
    obtain ⟨-, hx⟩ := hxx
    rcases hM with ⟨m1, hv, hb⟩ | ⟨m1, hv, hb⟩
    · have o := op_er (c := 1) hI (u := u) (fun f _ => by rw [hu])
      rw [hv]; exact ⟨1, rfl, by decide, o.2.1, fun h => absurd h (by decide), o.1⟩
    · exfalso; omega
theorem fu_echoIn {g u : St} {n p w : Int} {r9 : Int32} (hI : INV g n) (hP : (fun (r9 : Int32) (u : St) => (r9 = iI 0 ∧ ∃ (rr : Int32) (u0 : St), (fun (r9 : Int32) (u9 : St) => r9 = iI (eT g 0 (g 6 0 p 0) w) ∧ u9 = g ∧ ((0 ≤ p ∧ p < 4) ∧ (0 ≤ w ∧ w ≤ 1))) rr u0 ∧ u = up u0 20 0 0 0 rr.toInt) ∨ (r9 = iI 1 ∧ u = g ∧ (fun E => (E = eIX ∧ ¬ (0 ≤ p ∧ p < 4)) ∨ (E = eIA ∧ (0 ≤ p ∧ p < 4) ∧ ¬ (0 ≤ w ∧ w ≤ 1))) eIX) ∨ (r9 = iI 2 ∧ u = g ∧ (fun E => (E = eIX ∧ ¬ (0 ≤ p ∧ p < 4)) ∨ (E = eIA ∧ (0 ≤ p ∧ p < 4) ∧ ¬ (0 ≤ w ∧ w ≤ 1))) eIA)) r9 u) : ∀ f : Nat, 14 ≤ f → f ≤ 19 → u f = g f := by
  intro f a1 b1
  rcases hP with ⟨rfl, rr, u0, hP, hu⟩ | ⟨rfl, hu, hx⟩ | ⟨rfl, hu, hx⟩
  · obtain ⟨hr, h0, hc1, hc2⟩ := hP
    rw [hu, up_ff (show f ≠ 20 by omega), h0]
  · rw [hu]
  · rw [hu]
set_option maxHeartbeats 4000000 in
theorem st_echoIn {g u y9 : St} {n p w : Int} {r9 rb : Int32} (hI : INV g n) (hP : (fun (r9 : Int32) (u : St) => (r9 = iI 0 ∧ ∃ (rr : Int32) (u0 : St), (fun (r9 : Int32) (u9 : St) => r9 = iI (eT g 0 (g 6 0 p 0) w) ∧ u9 = g ∧ ((0 ≤ p ∧ p < 4) ∧ (0 ≤ w ∧ w ≤ 1))) rr u0 ∧ u = up u0 20 0 0 0 rr.toInt) ∨ (r9 = iI 1 ∧ u = g ∧ (fun E => (E = eIX ∧ ¬ (0 ≤ p ∧ p < 4)) ∨ (E = eIA ∧ (0 ≤ p ∧ p < 4) ∧ ¬ (0 ≤ w ∧ w ≤ 1))) eIX) ∨ (r9 = iI 2 ∧ u = g ∧ (fun E => (E = eIX ∧ ¬ (0 ≤ p ∧ p < 4)) ∨ (E = eIA ∧ (0 ≤ p ∧ p < 4) ∧ ¬ (0 ≤ w ∧ w ≤ 1))) eIA)) r9 u) (hM : (fun (r9 : Int32) (y9 : St) => ∃ z : Int, r9 = iI z ∧ ((¬ (0 ≤ p ∧ p ≤ 3) ∧ y9 = er u 1 ∧ z = 0) ∨ ((0 ≤ p ∧ p ≤ 3) ∧ ¬ (0 ≤ w ∧ w ≤ 1) ∧ y9 = er u 2 ∧ z = 0) ∨ ((0 ≤ p ∧ p ≤ 3) ∧ (0 ≤ w ∧ w ≤ 1) ∧ y9 = t0 u ∧ z = mD1 (t0 u) p w))) rb y9) : ∃ k : Int, r9 = iI k ∧ rg k ∧ y9 14 0 0 0 = k ∧ (k = 0 → y9 20 0 0 0 = rb.toInt) ∧ INV y9 (n + 60) := by
  have hf := fu_echoIn hI hP
  obtain ⟨b9, rfl, hM⟩ := hM
  rcases hP with ⟨rfl, rr, u0, hP, hu⟩ | ⟨rfl, hu, hx⟩ | ⟨rfl, hu, hx⟩
  · obtain ⟨hr, h0, hc1, hc2⟩ := hP
    rcases hM with ⟨m1, hv, hb⟩ | ⟨m1, m2, hv, hb⟩ | ⟨m1, m2, hv, hb⟩
    · exfalso; omega
    · exfalso; omega
    · have o := op_eIn hI hc1 (fun f h => by rw [hu, h0]; exact up_ff (by omega)) hv hb
      exact ⟨0, rfl, by decide, o.1.2.1, fun _ => by rw [o.1.2.2, show u 20 0 0 0 = rr.toInt by rw [hu, up_s], hr, o.2], o.1.1⟩
  · have hxx := hx
    rcases hxx with ⟨h9, hx⟩ | ⟨h9, hx⟩
    · skip
      rcases hM with ⟨m1, hv, hb⟩ | ⟨m1, m2, hv, hb⟩ | ⟨m1, m2, hv, hb⟩
      · have o := op_er (c := 1) hI (u := u) (fun f _ => by rw [hu])
        rw [hv]; exact ⟨1, rfl, by decide, o.2.1, fun h => absurd h (by decide), o.1⟩
      · exfalso; omega
      · exfalso; omega
    · exact absurd h9 (by decide)
  · have hxx := hx
    rcases hxx with ⟨h9, hx⟩ | ⟨h9, hx⟩
    · exact absurd h9 (by decide)
    · skip
      rcases hM with ⟨m1, hv, hb⟩ | ⟨m1, m2, hv, hb⟩ | ⟨m1, m2, hv, hb⟩
      · exfalso; omega
      · have o := op_er (c := 2) hI (u := u) (fun f _ => by rw [hu])
        rw [hv]; exact ⟨2, rfl, by decide, o.2.1, fun h => absurd h (by decide), o.1⟩
      · exfalso; omega
theorem fu_wouldClash {g u : St} {n p w : Int} {r9 : Int32} (hI : INV g n) (hP : (fun (r9 : Int32) (u : St) => (r9 = iI 0 ∧ ∃ (rr : Int32) (u0 : St), (fun (r9 : Int32) (u9 : St) => r9 = iI (if eT g 0 (g 6 0 p 0) w = eT g 0 (g 6 0 p 0) (1 - w) ∨ eDue g 0 (g 6 0 p 0) (g 1 0 0 0 + eT g 0 (g 6 0 p 0) w) then 1 else 0) ∧ u9 = g ∧ ((0 ≤ p ∧ p < 4) ∧ (0 ≤ w ∧ w ≤ 1))) rr u0 ∧ u = up u0 20 0 0 0 rr.toInt) ∨ (r9 = iI 1 ∧ u = g ∧ (fun E => (E = eIX ∧ ¬ (0 ≤ p ∧ p < 4)) ∨ (E = eIA ∧ (0 ≤ p ∧ p < 4) ∧ ¬ (0 ≤ w ∧ w ≤ 1))) eIX) ∨ (r9 = iI 2 ∧ u = g ∧ (fun E => (E = eIX ∧ ¬ (0 ≤ p ∧ p < 4)) ∨ (E = eIA ∧ (0 ≤ p ∧ p < 4) ∧ ¬ (0 ≤ w ∧ w ≤ 1))) eIA)) r9 u) : ∀ f : Nat, 14 ≤ f → f ≤ 19 → u f = g f := by
  intro f a1 b1
  rcases hP with ⟨rfl, rr, u0, hP, hu⟩ | ⟨rfl, hu, hx⟩ | ⟨rfl, hu, hx⟩
  · obtain ⟨hr, h0, hc1, hc2⟩ := hP
    rw [hu, up_ff (show f ≠ 20 by omega), h0]
  · rw [hu]
  · rw [hu]
set_option maxHeartbeats 4000000 in
theorem st_wouldClash {g u y9 : St} {n p w : Int} {r9 rb : Int32} (hI : INV g n) (hP : (fun (r9 : Int32) (u : St) => (r9 = iI 0 ∧ ∃ (rr : Int32) (u0 : St), (fun (r9 : Int32) (u9 : St) => r9 = iI (if eT g 0 (g 6 0 p 0) w = eT g 0 (g 6 0 p 0) (1 - w) ∨ eDue g 0 (g 6 0 p 0) (g 1 0 0 0 + eT g 0 (g 6 0 p 0) w) then 1 else 0) ∧ u9 = g ∧ ((0 ≤ p ∧ p < 4) ∧ (0 ≤ w ∧ w ≤ 1))) rr u0 ∧ u = up u0 20 0 0 0 rr.toInt) ∨ (r9 = iI 1 ∧ u = g ∧ (fun E => (E = eIX ∧ ¬ (0 ≤ p ∧ p < 4)) ∨ (E = eIA ∧ (0 ≤ p ∧ p < 4) ∧ ¬ (0 ≤ w ∧ w ≤ 1))) eIX) ∨ (r9 = iI 2 ∧ u = g ∧ (fun E => (E = eIX ∧ ¬ (0 ≤ p ∧ p < 4)) ∨ (E = eIA ∧ (0 ≤ p ∧ p < 4) ∧ ¬ (0 ≤ w ∧ w ≤ 1))) eIA)) r9 u) (hM : (fun (r9 : Int32) (y9 : St) => ∃ z : Int, r9 = iI z ∧ ((¬ (0 ≤ p ∧ p ≤ 3) ∧ y9 = er u 1 ∧ z = 0) ∨ ((0 ≤ p ∧ p ≤ 3) ∧ ¬ (0 ≤ w ∧ w ≤ 1) ∧ y9 = er u 2 ∧ z = 0) ∨ ((0 ≤ p ∧ p ≤ 3) ∧ (0 ≤ w ∧ w ≤ 1) ∧ y9 = t0 u ∧ z = (if mIs (t0 u) p w 0 then 1 else 0)))) rb y9) : ∃ k : Int, r9 = iI k ∧ rg k ∧ y9 14 0 0 0 = k ∧ (k = 0 → y9 20 0 0 0 = rb.toInt) ∧ INV y9 (n + 60) := by
  have hf := fu_wouldClash hI hP
  obtain ⟨b9, rfl, hM⟩ := hM
  rcases hP with ⟨rfl, rr, u0, hP, hu⟩ | ⟨rfl, hu, hx⟩ | ⟨rfl, hu, hx⟩
  · obtain ⟨hr, h0, hc1, hc2⟩ := hP
    rcases hM with ⟨m1, hv, hb⟩ | ⟨m1, m2, hv, hb⟩ | ⟨m1, m2, hv, hb⟩
    · exfalso; omega
    · exfalso; omega
    · have o := op_clash hI hc1 hc2 (fun f h => by rw [hu, h0]; exact up_ff (by omega)) hv hb
      exact ⟨0, rfl, by decide, o.1.2.1, fun _ => by rw [o.1.2.2, show u 20 0 0 0 = rr.toInt by rw [hu, up_s], hr, o.2], o.1.1⟩
  · have hxx := hx
    rcases hxx with ⟨h9, hx⟩ | ⟨h9, hx⟩
    · skip
      rcases hM with ⟨m1, hv, hb⟩ | ⟨m1, m2, hv, hb⟩ | ⟨m1, m2, hv, hb⟩
      · have o := op_er (c := 1) hI (u := u) (fun f _ => by rw [hu])
        rw [hv]; exact ⟨1, rfl, by decide, o.2.1, fun h => absurd h (by decide), o.1⟩
      · exfalso; omega
      · exfalso; omega
    · exact absurd h9 (by decide)
  · have hxx := hx
    rcases hxx with ⟨h9, hx⟩ | ⟨h9, hx⟩
    · exact absurd h9 (by decide)
    · skip
      rcases hM with ⟨m1, hv, hb⟩ | ⟨m1, m2, hv, hb⟩ | ⟨m1, m2, hv, hb⟩
      · exfalso; omega
      · have o := op_er (c := 2) hI (u := u) (fun f _ => by rw [hu])
        rw [hv]; exact ⟨2, rfl, by decide, o.2.1, fun h => absurd h (by decide), o.1⟩
      · exfalso; omega
theorem fu_callIn {g u : St} {n p : Int} {r9 : Int32} (hI : INV g n) (hP : (fun (r9 : Int32) (u : St) => (r9 = iI 0 ∧ ∃ (rr : Int32) (u0 : St), (fun (r9 : Int32) (u9 : St) => r9 = iI (if eT g 0 (g 6 0 p 0) 0 = eT g 0 (g 6 0 p 0) 1 then -1 else frst (pW g 0 (g 6 0 p 0)) 61 0) ∧ u9 = g ∧ (0 ≤ p ∧ p < 4)) rr u0 ∧ u = up u0 20 0 0 0 rr.toInt) ∨ (r9 = iI 1 ∧ u = g ∧ (fun E => E = eIX ∧ ¬ (0 ≤ p ∧ p < 4)) eIX)) r9 u) : ∀ f : Nat, 14 ≤ f → f ≤ 19 → u f = g f := by
  intro f a1 b1
  rcases hP with ⟨rfl, rr, u0, hP, hu⟩ | ⟨rfl, hu, hx⟩
  · obtain ⟨hr, h0, hc1⟩ := hP
    rw [hu, up_ff (show f ≠ 20 by omega), h0]
  · rw [hu]
set_option maxHeartbeats 4000000 in
theorem st_callIn {g u y9 : St} {n p : Int} {r9 rb : Int32} (hI : INV g n) (hP : (fun (r9 : Int32) (u : St) => (r9 = iI 0 ∧ ∃ (rr : Int32) (u0 : St), (fun (r9 : Int32) (u9 : St) => r9 = iI (if eT g 0 (g 6 0 p 0) 0 = eT g 0 (g 6 0 p 0) 1 then -1 else frst (pW g 0 (g 6 0 p 0)) 61 0) ∧ u9 = g ∧ (0 ≤ p ∧ p < 4)) rr u0 ∧ u = up u0 20 0 0 0 rr.toInt) ∨ (r9 = iI 1 ∧ u = g ∧ (fun E => E = eIX ∧ ¬ (0 ≤ p ∧ p < 4)) eIX)) r9 u) (hM : (fun (r9 : Int32) (y9 : St) => ∃ z : Int, r9 = iI z ∧ ((¬ (0 ≤ p ∧ p ≤ 3) ∧ y9 = er u 1 ∧ z = 0) ∨ ((0 ≤ p ∧ p ≤ 3) ∧ y9 = t0 u ∧ z = mBw (t0 u) p))) rb y9) : ∃ k : Int, r9 = iI k ∧ rg k ∧ y9 14 0 0 0 = k ∧ (k = 0 → y9 20 0 0 0 = rb.toInt) ∧ INV y9 (n + 60) := by
  have hf := fu_callIn hI hP
  obtain ⟨b9, rfl, hM⟩ := hM
  rcases hP with ⟨rfl, rr, u0, hP, hu⟩ | ⟨rfl, hu, hx⟩
  · obtain ⟨hr, h0, hc1⟩ := hP
    rcases hM with ⟨m1, hv, hb⟩ | ⟨m1, hv, hb⟩
    · exfalso; omega
    · have o := op_wait hI hc1 (fun f h => by rw [hu, h0]; exact up_ff (by omega)) hv hb
      exact ⟨0, rfl, by decide, o.1.2.1, fun _ => by rw [o.1.2.2, show u 20 0 0 0 = rr.toInt by rw [hu, up_s], hr, o.2], o.1.1⟩
  · have hxx := hx
    obtain ⟨-, hx⟩ := hxx
    rcases hM with ⟨m1, hv, hb⟩ | ⟨m1, hv, hb⟩
    · have o := op_er (c := 1) hI (u := u) (fun f _ => by rw [hu])
      rw [hv]; exact ⟨1, rfl, by decide, o.2.1, fun h => absurd h (by decide), o.1⟩
    · exfalso; omega
