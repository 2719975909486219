/-! the echoes that are due, in whatever order -/
theorem split_perm {α : Type} {P Q R : α → Bool} (h : ∀ x, R x = (P x || Q x)) (hd : ∀ x, ¬ (P x = true ∧ Q x = true)) : ∀ L : List α, (L.filter P ++ L.filter Q).Perm (L.filter R)
  | [] => List.Perm.refl _
  | x :: L => by
    have ih := split_perm h hd L
    have hr := h x
    have hx := hd x
    cases hp : P x <;> cases hq : Q x
    · rw [List.filter_cons_of_neg (by simp [hp]), List.filter_cons_of_neg (by simp [hq]), List.filter_cons_of_neg (by simp [hr, hp, hq])]; exact ih
    · rw [List.filter_cons_of_neg (by simp [hp]), List.filter_cons_of_pos hq, List.filter_cons_of_pos (by simp [hr, hq])]
      exact List.perm_middle.trans (ih.cons x)
    · rw [List.filter_cons_of_pos hp, List.filter_cons_of_neg (by simp [hq]), List.filter_cons_of_pos (by simp [hr, hp])]
      exact ih.cons x
    · exact absurd ⟨hp, hq⟩ hx
def duQ (c : Int) : E5 → Bool := fun x => decide (x.2.2.2.1 = c)
theorem dueL_n (h : St) : ∀ n : Nat, (dueL h n).Perm ((mls h).filter (fun x => decide ((0 ≤ x.2.1 ∧ x.2.1 < n) ∧ x.2.2.2.1 = h 15 0 0 3)))
  | 0 => by
    have e : (mls h).filter (fun x => decide ((0 ≤ x.2.1 ∧ x.2.1 < ((0 : Nat) : Int)) ∧ x.2.2.2.1 = h 15 0 0 3)) = [] := List.filter_eq_nil_iff.mpr (fun x _ hx => by have := (of_decide_eq_true hx).1; omega)
    rw [e]; exact List.Perm.refl _
  | n + 1 => by
    have ih := dueL_n h n
    have e : dueL h (n + 1) = dueL h n ++ (mls h).filter (duP h n) := by
      unfold dueL; rw [List.range_succ, List.flatMap_append]; simp
    rw [e]
    refine (ih.append_right _).trans (split_perm (fun x => ?_) (fun x hx => ?_) (mls h))
    · unfold duP; rw [← Bool.decide_or]
      exact decide_eq_decide.mpr (by omega)
    · have a := of_decide_eq_true hx.1
      have b := of_decide_eq_true hx.2
      omega
theorem mls_mem {h : St} {x : E5} (hx : x ∈ mls h) : ∃ i : Nat, i < (h 15 0 0 9).toNat ∧ x = mev h i := by
  unfold mls at hx
  obtain ⟨i, hi, rfl⟩ := List.mem_map.mp hx
  exact ⟨i, List.mem_range.mp hi, rfl⟩
theorem dueL_perm {h : St} (hw : wm (h 15 0 0) 0) : (dueL h (h 15 0 0 0 + 1).toNat).Perm ((mls h).filter (duQ (h 15 0 0 3))) := by
  refine (dueL_n h _).trans ?_
  have e : (mls h).filter (fun x => decide ((0 ≤ x.2.1 ∧ x.2.1 < ((h 15 0 0 0 + 1).toNat : Int)) ∧ x.2.2.2.1 = h 15 0 0 3)) = (mls h).filter (duQ (h 15 0 0 3)) := by
    refine List.filter_congr (fun x hx => ?_)
    obtain ⟨i, hi, rfl⟩ := mls_mem hx
    have ho := hw.2.2.2.2.2.2.2.2.2 i (by omega) (by omega)
    unfold okM at ho
    refine decide_eq_decide.mpr ⟨fun a => a.2, fun a => ⟨⟨ho.2.1.1, ?_⟩, a⟩⟩
    have := ho.2.1.2
    have hS := hw.1
    show h 15 0 0 (34 + 5 * (i : Int) + 1) < _
    omega
  rw [e]
theorem filter_take {α : Type} {P : α → Bool} {L : List α} {b : Nat} (h1 : ∀ x ∈ L.take b, P x = true) (h2 : ∀ x ∈ L.drop b, ¬ P x = true) : L.filter P = L.take b := by
  have e := List.take_append_drop b L
  have e2 : L.filter P = (L.take b ++ L.drop b).filter P := by rw [e]
  rw [e2, List.filter_append, List.filter_eq_self.mpr h1, List.filter_eq_nil_iff.mpr h2, List.append_nil]
theorem filter_drop {α : Type} {P : α → Bool} {L : List α} {b : Nat} (h1 : ∀ x ∈ L.take b, ¬ P x = true) (h2 : ∀ x ∈ L.drop b, P x = true) : L.filter P = L.drop b := by
  have e := List.take_append_drop b L
  have e2 : L.filter P = (L.take b ++ L.drop b).filter P := by rw [e]
  rw [e2, List.filter_append, List.filter_eq_nil_iff.mpr h1, List.filter_eq_self.mpr h2, List.nil_append]
theorem mls_dp (g : St) (c : Int) : ∀ n : Nat, (List.range (kpM g c n).toNat).map (fun i : Nat => mev (dpM g c n) i) = ((List.range n).map (fun i : Nat => mev g i)).filter (fun x => decide (c < x.2.2.2.1))
  | 0 => rfl
  | n + 1 => by
    have ih := mls_dp g c n
    have hk := kpM_in g c n
    rw [List.range_succ, List.map_append, List.filter_append, ← ih, kpM, dpM]
    by_cases hc : c < g 15 0 0 (34 + 5 * (n : Int) + 3)
    · rw [if_pos hc, if_pos hc, show (kpM g c n + 1).toNat = (kpM g c n).toNat + 1 by omega, List.range_succ, List.map_append]
      have e1 : (List.range (kpM g c n).toNat).map (fun i : Nat => mev (cp5 (dpM g c n) (kpM g c n) n 5) i) = (List.range (kpM g c n).toNat).map (fun i : Nat => mev (dpM g c n) i) := by
        refine List.map_congr_left (fun i hi => ?_)
        have := List.mem_range.mp hi
        unfold mev
        rw [cp5_o (by omega), cp5_o (by omega), cp5_o (by omega), cp5_o (by omega), cp5_o (by omega)]
      have e2 : mev (cp5 (dpM g c n) (kpM g c n) n 5) ((kpM g c n).toNat : Nat) = mev g n := by
        unfold mev
        rw [show (((kpM g c n).toNat : Nat) : Int) = kpM g c n by omega]
        rw [cp5_n (x := 0) (by omega), cp5_n (x := 1) (by omega), cp5_n (x := 2) (by omega), cp5_n (x := 3) (by omega), cp5_n (x := 4) (by omega), dpM_hi _ _ _ (by omega), dpM_hi _ _ _ (by omega), dpM_hi _ _ _ (by omega), dpM_hi _ _ _ (by omega), dpM_hi _ _ _ (by omega)]
      have ef : List.filter (fun x : E5 => decide (c < x.2.2.2.1)) [mev g n] = [mev g n] := by
        rw [List.filter_cons_of_pos (p := fun x : E5 => decide (c < x.2.2.2.1)) (show decide (c < (mev g n).2.2.2.1) = true from decide_eq_true hc)]; rfl
      rw [e1, List.map_cons, List.map_nil, List.map_cons, List.map_nil, e2, ef]
    · have ef : List.filter (fun x : E5 => decide (c < x.2.2.2.1)) [mev g n] = [] := by
        rw [List.filter_cons_of_neg (p := fun x : E5 => decide (c < x.2.2.2.1)) (show ¬ decide (c < (mev g n).2.2.2.1) = true from fun hx => hc (of_decide_eq_true hx))]; rfl
      rw [if_neg hc, if_neg hc, List.map_cons, List.map_nil, ef, List.append_nil]
theorem mls_dd (g : St) : mls (ddG g) = (mls g).filter (fun x => decide (g 15 0 0 3 < x.2.2.2.1)) := by
  have hk := kpM_in g (g 15 0 0 3) (g 15 0 0 9).toNat
  have h := mls_dp g (g 15 0 0 3) (g 15 0 0 9).toNat
  show (List.range (ddG g 15 0 0 9).toNat).map (fun i : Nat => mev (ddG g) i) = ((List.range (g 15 0 0 9).toNat).map (fun i : Nat => mev g i)).filter _
  rw [← h]
  have e : ddG g 15 0 0 9 = kpM g (g 15 0 0 3) (g 15 0 0 9).toNat := by unfold ddG; rw [up_s]
  rw [e]
  refine List.map_congr_left (fun i hi => ?_)
  have := List.mem_range.mp hi
  unfold mev ddG
  rw [up_i (by omega), up_i (by omega), up_i (by omega), up_i (by omega), up_i (by omega)]
theorem mls_x {g u : St} (h : ∀ x, (x = 9 ∨ 34 ≤ x) → u 15 0 0 x = g 15 0 0 x) : mls u = mls g := by
  unfold mls
  rw [h 9 (by decide)]
  refine List.map_congr_left (fun i hi => ?_)
  unfold mev
  rw [h _ (by omega), h _ (by omega), h _ (by omega), h _ (by omega), h _ (by omega)]
theorem mls_ad {g : St} {p w y : Int} (hn : 0 ≤ g 15 0 0 9) : mls (adM g p w y) = mls g ++ [(p, g 15 0 0 (10 + 6 * p + 0), w, g 15 0 0 3 + mDl g (g 15 0 0 (10 + 6 * p + 0)) y, y)] := by
  unfold mls
  rw [ad_9, show (g 15 0 0 9 + 1).toNat = (g 15 0 0 9).toNat + 1 by omega, List.range_succ, List.map_append]
  congr 1
  · refine List.map_congr_left (fun i hi => ?_)
    have := List.mem_range.mp hi
    unfold mev
    rw [ad_e (by omega) (by omega), ad_e (by omega) (by omega), ad_e (by omega) (by omega), ad_e (by omega) (by omega), ad_e (by omega) (by omega)]
  · rw [List.map_cons, List.map_nil]
    obtain ⟨a0, a1, a2, a3, a4⟩ := ad_n (g := g) (p := p) (w := w) (y := y) hn
    unfold mev
    rw [show (((g 15 0 0 9).toNat : Nat) : Int) = g 15 0 0 9 by omega, a0, a1, a2, a3, a4]
